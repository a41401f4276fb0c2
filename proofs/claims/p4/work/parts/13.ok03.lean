set_option maxRecDepth 100000 in
theorem pk_90 : pq_mok pq_tab pm_90 := ⟨⟨pq_gt_mem 4043 rfl rfl, pq_gt_mem 1006 (by decide +kernel) rfl, by decide +kernel, ⟨by decide +kernel, by decide +kernel, by decide +kernel⟩, by decide +kernel, Or.inr (Or.inl ⟨rfl, pq_gt_mem 4041 (by decide +kernel) rfl, pq_gt_mem 4042 (by decide +kernel) rfl, Or.inl (by decide +kernel)⟩)⟩, pd_rows (by decide +kernel)⟩
set_option maxRecDepth 100000 in
theorem pk_91 : pq_mok pq_tab pm_91 := ⟨⟨pq_gt_mem 4047 rfl rfl, pq_gt_mem 1006 (by decide +kernel) rfl, by decide +kernel, ⟨by decide +kernel, by decide +kernel, by decide +kernel⟩, by decide +kernel, Or.inr (Or.inl ⟨rfl, pq_gt_mem 4045 (by decide +kernel) rfl, pq_gt_mem 4046 (by decide +kernel) rfl, Or.inl (by decide +kernel)⟩)⟩, pd_rows (by decide +kernel)⟩
set_option maxRecDepth 100000 in
theorem pk_92 : pq_mok pq_tab pm_92 := ⟨⟨pq_gt_mem 4051 rfl rfl, pq_gt_mem 1001 (by decide +kernel) rfl, by decide +kernel, ⟨by decide +kernel, by decide +kernel, by decide +kernel⟩, by decide +kernel, Or.inr (Or.inl ⟨rfl, pq_gt_mem 4049 (by decide +kernel) rfl, pq_gt_mem 4050 (by decide +kernel) rfl, Or.inl (by decide +kernel)⟩)⟩, pd_rows (by decide +kernel)⟩
set_option maxRecDepth 100000 in
theorem pk_93 : pq_mok pq_tab pm_93 := ⟨⟨pq_gt_mem 4055 rfl rfl, pq_gt_mem 1006 (by decide +kernel) rfl, by decide +kernel, ⟨by decide +kernel, by decide +kernel, by decide +kernel⟩, by decide +kernel, Or.inr (Or.inl ⟨rfl, pq_gt_mem 4053 (by decide +kernel) rfl, pq_gt_mem 4054 (by decide +kernel) rfl, Or.inl (by decide +kernel)⟩)⟩, pd_rows (by decide +kernel)⟩
set_option maxRecDepth 100000 in
theorem pk_94 : pq_mok pq_tab pm_94 := ⟨⟨pq_gt_mem 4060 rfl rfl, pq_gt_mem 1001 (by decide +kernel) rfl, by decide +kernel, ⟨by decide +kernel, by decide +kernel, by decide +kernel⟩, by decide +kernel, Or.inr (Or.inl ⟨rfl, pq_gt_mem 4058 (by decide +kernel) rfl, pq_gt_mem 4059 (by decide +kernel) rfl, Or.inl (by decide +kernel)⟩)⟩, pd_rows (by decide +kernel)⟩
set_option maxRecDepth 100000 in
theorem pk_95 : pq_mok pq_tab pm_95 := ⟨⟨pq_gt_mem 4064 rfl rfl, pq_gt_mem 1006 (by decide +kernel) rfl, by decide +kernel, ⟨by decide +kernel, by decide +kernel, by decide +kernel⟩, by decide +kernel, Or.inr (Or.inl ⟨rfl, pq_gt_mem 4062 (by decide +kernel) rfl, pq_gt_mem 4063 (by decide +kernel) rfl, Or.inl (by decide +kernel)⟩)⟩, pd_rows (by decide +kernel)⟩
set_option maxRecDepth 100000 in
theorem pk_96 : pq_mok pq_tab pm_96 := ⟨⟨pq_gt_mem 4069 rfl rfl, pq_gt_mem 1001 (by decide +kernel) rfl, by decide +kernel, ⟨by decide +kernel, by decide +kernel, by decide +kernel⟩, by decide +kernel, Or.inr (Or.inl ⟨rfl, pq_gt_mem 4067 (by decide +kernel) rfl, pq_gt_mem 4068 (by decide +kernel) rfl, Or.inl (by decide +kernel)⟩)⟩, pd_rows (by decide +kernel)⟩
set_option maxRecDepth 100000 in
theorem pk_97 : pq_mok pq_tab pm_97 := ⟨⟨pq_gt_mem 4073 rfl rfl, pq_gt_mem 1009 (by decide +kernel) rfl, by decide +kernel, ⟨by decide +kernel, by decide +kernel, by decide +kernel⟩, by decide +kernel, Or.inr (Or.inl ⟨rfl, pq_gt_mem 4071 (by decide +kernel) rfl, pq_gt_mem 4072 (by decide +kernel) rfl, Or.inl (by decide +kernel)⟩)⟩, pd_rows (by decide +kernel)⟩
set_option maxRecDepth 100000 in
theorem pk_98 : pq_mok pq_tab pm_98 := ⟨⟨pq_gt_mem 4082 rfl rfl, pq_gt_mem 1009 (by decide +kernel) rfl, by decide +kernel, ⟨by decide +kernel, by decide +kernel, by decide +kernel⟩, by decide +kernel, Or.inr (Or.inl ⟨rfl, pq_gt_mem 4081 (by decide +kernel) rfl, pq_gt_mem 16 (by decide +kernel) rfl, Or.inl (by decide +kernel)⟩)⟩, pd_rows (by decide +kernel)⟩
set_option maxRecDepth 100000 in
theorem pk_99 : pq_mok pq_tab pm_99 := ⟨⟨pq_gt_mem 4085 rfl rfl, pq_gt_mem 1001 (by decide +kernel) rfl, by decide +kernel, ⟨by decide +kernel, by decide +kernel, by decide +kernel⟩, by decide +kernel, Or.inl ⟨rfl, pq_gt_mem 4084 (by decide +kernel) rfl⟩⟩, pd_rows (by decide +kernel)⟩
set_option maxRecDepth 100000 in
theorem pk_100 : pq_mok pq_tab pm_100 := ⟨⟨pq_gt_mem 4088 rfl rfl, pq_gt_mem 1009 (by decide +kernel) rfl, by decide +kernel, ⟨by decide +kernel, by decide +kernel, by decide +kernel⟩, by decide +kernel, Or.inl ⟨rfl, pq_gt_mem 4087 (by decide +kernel) rfl⟩⟩, pd_rows (by decide +kernel)⟩
set_option maxRecDepth 100000 in
theorem pk_101 : pq_mok pq_tab pm_101 := ⟨⟨pq_gt_mem 4092 rfl rfl, pq_gt_mem 1001 (by decide +kernel) rfl, by decide +kernel, ⟨by decide +kernel, by decide +kernel, by decide +kernel⟩, by decide +kernel, Or.inr (Or.inl ⟨rfl, pq_gt_mem 4090 (by decide +kernel) rfl, pq_gt_mem 4091 (by decide +kernel) rfl, Or.inl (by decide +kernel)⟩)⟩, pd_rows (by decide +kernel)⟩
set_option maxRecDepth 100000 in
theorem pk_102 : pq_mok pq_tab pm_102 := ⟨⟨pq_gt_mem 4096 rfl rfl, pq_gt_mem 1001 (by decide +kernel) rfl, by decide +kernel, ⟨by decide +kernel, by decide +kernel, by decide +kernel⟩, by decide +kernel, Or.inr (Or.inl ⟨rfl, pq_gt_mem 4095 (by decide +kernel) rfl, pq_gt_mem 17 (by decide +kernel) rfl, Or.inl (by decide +kernel)⟩)⟩, pd_rows (by decide +kernel)⟩
set_option maxRecDepth 100000 in
theorem pk_103 : pq_mok pq_tab pm_103 := ⟨⟨pq_gt_mem 4100 rfl rfl, pq_gt_mem 1004 (by decide +kernel) rfl, by decide +kernel, ⟨by decide +kernel, by decide +kernel, by decide +kernel⟩, by decide +kernel, Or.inr (Or.inl ⟨rfl, pq_gt_mem 4098 (by decide +kernel) rfl, pq_gt_mem 4099 (by decide +kernel) rfl, Or.inl (by decide +kernel)⟩)⟩, pd_rows (by decide +kernel)⟩
set_option maxRecDepth 100000 in
theorem pk_104 : pq_mok pq_tab pm_104 := ⟨⟨pq_gt_mem 4105 rfl rfl, pq_gt_mem 1009 (by decide +kernel) rfl, by decide +kernel, ⟨by decide +kernel, by decide +kernel, by decide +kernel⟩, by decide +kernel, Or.inr (Or.inl ⟨rfl, pq_gt_mem 4103 (by decide +kernel) rfl, pq_gt_mem 4104 (by decide +kernel) rfl, Or.inl (by decide +kernel)⟩)⟩, pd_rows (by decide +kernel)⟩
set_option maxRecDepth 100000 in
theorem pk_105 : pq_mok pq_tab pm_105 := ⟨⟨pq_gt_mem 4110 rfl rfl, pq_gt_mem 1008 (by decide +kernel) rfl, by decide +kernel, ⟨by decide +kernel, by decide +kernel, by decide +kernel⟩, by decide +kernel, Or.inr (Or.inl ⟨rfl, pq_gt_mem 4108 (by decide +kernel) rfl, pq_gt_mem 4109 (by decide +kernel) rfl, Or.inl (by decide +kernel)⟩)⟩, pd_rows (by decide +kernel)⟩
set_option maxRecDepth 100000 in
theorem pk_106 : pq_mok pq_tab pm_106 := ⟨⟨pq_gt_mem 4114 rfl rfl, pq_gt_mem 1009 (by decide +kernel) rfl, by decide +kernel, ⟨by decide +kernel, by decide +kernel, by decide +kernel⟩, by decide +kernel, Or.inr (Or.inl ⟨rfl, pq_gt_mem 4112 (by decide +kernel) rfl, pq_gt_mem 4113 (by decide +kernel) rfl, Or.inl (by decide +kernel)⟩)⟩, pd_rows (by decide +kernel)⟩
set_option maxRecDepth 100000 in
theorem pk_107 : pq_mok pq_tab pm_107 := ⟨⟨pq_gt_mem 4120 rfl rfl, pq_gt_mem 1006 (by decide +kernel) rfl, by decide +kernel, ⟨by decide +kernel, by decide +kernel, by decide +kernel⟩, by decide +kernel, Or.inr (Or.inl ⟨rfl, pq_gt_mem 4118 (by decide +kernel) rfl, pq_gt_mem 4119 (by decide +kernel) rfl, Or.inl (by decide +kernel)⟩)⟩, pd_rows (by decide +kernel)⟩
set_option maxRecDepth 100000 in
theorem pk_108 : pq_mok pq_tab pm_108 := ⟨⟨pq_gt_mem 4124 rfl rfl, pq_gt_mem 1006 (by decide +kernel) rfl, by decide +kernel, ⟨by decide +kernel, by decide +kernel, by decide +kernel⟩, by decide +kernel, Or.inr (Or.inl ⟨rfl, pq_gt_mem 4123 (by decide +kernel) rfl, pq_gt_mem 18 (by decide +kernel) rfl, Or.inl (by decide +kernel)⟩)⟩, pd_rows (by decide +kernel)⟩
set_option maxRecDepth 100000 in
theorem pk_109 : pq_mok pq_tab pm_109 := ⟨⟨pq_gt_mem 4128 rfl rfl, pq_gt_mem 1009 (by decide +kernel) rfl, by decide +kernel, ⟨by decide +kernel, by decide +kernel, by decide +kernel⟩, by decide +kernel, Or.inr (Or.inl ⟨rfl, pq_gt_mem 4126 (by decide +kernel) rfl, pq_gt_mem 4127 (by decide +kernel) rfl, Or.inl (by decide +kernel)⟩)⟩, pd_rows (by decide +kernel)⟩
set_option maxRecDepth 100000 in
theorem pk_110 : pq_mok pq_tab pm_110 := ⟨⟨pq_gt_mem 4133 rfl rfl, pq_gt_mem 1009 (by decide +kernel) rfl, by decide +kernel, ⟨by decide +kernel, by decide +kernel, by decide +kernel⟩, by decide +kernel, Or.inr (Or.inl ⟨rfl, pq_gt_mem 4132 (by decide +kernel) rfl, pq_gt_mem 19 (by decide +kernel) rfl, Or.inl (by decide +kernel)⟩)⟩, pd_rows (by decide +kernel)⟩
set_option maxRecDepth 100000 in
theorem pk_111 : pq_mok pq_tab pm_111 := ⟨⟨pq_gt_mem 4139 rfl rfl, pq_gt_mem 1004 (by decide +kernel) rfl, by decide +kernel, ⟨by decide +kernel, by decide +kernel, by decide +kernel⟩, by decide +kernel, Or.inr (Or.inl ⟨rfl, pq_gt_mem 4137 (by decide +kernel) rfl, pq_gt_mem 4138 (by decide +kernel) rfl, Or.inl (by decide +kernel)⟩)⟩, pd_rows (by decide +kernel)⟩
set_option maxRecDepth 100000 in
theorem pk_112 : pq_mok pq_tab pm_112 := ⟨⟨pq_gt_mem 4143 rfl rfl, pq_gt_mem 1009 (by decide +kernel) rfl, by decide +kernel, ⟨by decide +kernel, by decide +kernel, by decide +kernel⟩, by decide +kernel, Or.inr (Or.inl ⟨rfl, pq_gt_mem 4141 (by decide +kernel) rfl, pq_gt_mem 4142 (by decide +kernel) rfl, Or.inl (by decide +kernel)⟩)⟩, pd_rows (by decide +kernel)⟩
set_option maxRecDepth 100000 in
theorem pk_113 : pq_mok pq_tab pm_113 := ⟨⟨pq_gt_mem 4147 rfl rfl, pq_gt_mem 1001 (by decide +kernel) rfl, by decide +kernel, ⟨by decide +kernel, by decide +kernel, by decide +kernel⟩, by decide +kernel, Or.inr (Or.inl ⟨rfl, pq_gt_mem 4145 (by decide +kernel) rfl, pq_gt_mem 4146 (by decide +kernel) rfl, Or.inl (by decide +kernel)⟩)⟩, pd_rows (by decide +kernel)⟩
set_option maxRecDepth 100000 in
theorem pk_114 : pq_mok pq_tab pm_114 := ⟨⟨pq_gt_mem 4151 rfl rfl, pq_gt_mem 1001 (by decide +kernel) rfl, by decide +kernel, ⟨by decide +kernel, by decide +kernel, by decide +kernel⟩, by decide +kernel, Or.inr (Or.inl ⟨rfl, pq_gt_mem 4149 (by decide +kernel) rfl, pq_gt_mem 4150 (by decide +kernel) rfl, Or.inl (by decide +kernel)⟩)⟩, pd_rows (by decide +kernel)⟩
set_option maxRecDepth 100000 in
theorem pk_115 : pq_mok pq_tab pm_115 := ⟨⟨pq_gt_mem 4155 rfl rfl, pq_gt_mem 1001 (by decide +kernel) rfl, by decide +kernel, ⟨by decide +kernel, by decide +kernel, by decide +kernel⟩, by decide +kernel, Or.inr (Or.inl ⟨rfl, pq_gt_mem 4153 (by decide +kernel) rfl, pq_gt_mem 4154 (by decide +kernel) rfl, Or.inl (by decide +kernel)⟩)⟩, pd_rows (by decide +kernel)⟩
set_option maxRecDepth 100000 in
theorem pk_116 : pq_mok pq_tab pm_116 := ⟨⟨pq_gt_mem 4159 rfl rfl, pq_gt_mem 1009 (by decide +kernel) rfl, by decide +kernel, ⟨by decide +kernel, by decide +kernel, by decide +kernel⟩, by decide +kernel, Or.inr (Or.inl ⟨rfl, pq_gt_mem 4157 (by decide +kernel) rfl, pq_gt_mem 4158 (by decide +kernel) rfl, Or.inl (by decide +kernel)⟩)⟩, pd_rows (by decide +kernel)⟩
set_option maxRecDepth 100000 in
theorem pk_117 : pq_mok pq_tab pm_117 := ⟨⟨pq_gt_mem 4164 rfl rfl, pq_gt_mem 1001 (by decide +kernel) rfl, by decide +kernel, ⟨by decide +kernel, by decide +kernel, by decide +kernel⟩, by decide +kernel, Or.inr (Or.inl ⟨rfl, pq_gt_mem 4162 (by decide +kernel) rfl, pq_gt_mem 4163 (by decide +kernel) rfl, Or.inl (by decide +kernel)⟩)⟩, pd_rows (by decide +kernel)⟩
set_option maxRecDepth 100000 in
theorem pk_118 : pq_mok pq_tab pm_118 := ⟨⟨pq_gt_mem 4168 rfl rfl, pq_gt_mem 1004 (by decide +kernel) rfl, by decide +kernel, ⟨by decide +kernel, by decide +kernel, by decide +kernel⟩, by decide +kernel, Or.inr (Or.inl ⟨rfl, pq_gt_mem 4166 (by decide +kernel) rfl, pq_gt_mem 4167 (by decide +kernel) rfl, Or.inl (by decide +kernel)⟩)⟩, pd_rows (by decide +kernel)⟩
set_option maxRecDepth 100000 in
theorem pk_119 : pq_mok pq_tab pm_119 := ⟨⟨pq_gt_mem 4172 rfl rfl, pq_gt_mem 1002 (by decide +kernel) rfl, by decide +kernel, ⟨by decide +kernel, by decide +kernel, by decide +kernel⟩, by decide +kernel, Or.inr (Or.inl ⟨rfl, pq_gt_mem 4170 (by decide +kernel) rfl, pq_gt_mem 4171 (by decide +kernel) rfl, Or.inl (by decide +kernel)⟩)⟩, pd_rows (by decide +kernel)⟩
