set_option maxRecDepth 100000 in
theorem pk_120 : pq_mok pq_tab pm_120 := ⟨⟨pq_gt_mem 4176 rfl rfl, pq_gt_mem 1002 (by decide +kernel) rfl, by decide +kernel, ⟨by decide +kernel, by decide +kernel, by decide +kernel⟩, by decide +kernel, Or.inr (Or.inl ⟨rfl, pq_gt_mem 4175 (by decide +kernel) rfl, pq_gt_mem 20 (by decide +kernel) rfl, Or.inl (by decide +kernel)⟩)⟩, pd_rows (by decide +kernel)⟩
set_option maxRecDepth 100000 in
theorem pk_121 : pq_mok pq_tab pm_121 := ⟨⟨pq_gt_mem 4188 rfl rfl, pq_gt_mem 1001 (by decide +kernel) rfl, by decide +kernel, ⟨by decide +kernel, by decide +kernel, by decide +kernel⟩, by decide +kernel, Or.inr (Or.inl ⟨rfl, pq_gt_mem 4186 (by decide +kernel) rfl, pq_gt_mem 4187 (by decide +kernel) rfl, Or.inl (by decide +kernel)⟩)⟩, pd_rows (by decide +kernel)⟩
set_option maxRecDepth 100000 in
theorem pk_122 : pq_mok pq_tab pm_122 := ⟨⟨pq_gt_mem 4192 rfl rfl, pq_gt_mem 1001 (by decide +kernel) rfl, by decide +kernel, ⟨by decide +kernel, by decide +kernel, by decide +kernel⟩, by decide +kernel, Or.inr (Or.inl ⟨rfl, pq_gt_mem 4190 (by decide +kernel) rfl, pq_gt_mem 4191 (by decide +kernel) rfl, Or.inl (by decide +kernel)⟩)⟩, pd_rows (by decide +kernel)⟩
set_option maxRecDepth 100000 in
theorem pk_123 : pq_mok pq_tab pm_123 := ⟨⟨pq_gt_mem 4196 rfl rfl, pq_gt_mem 1010 (by decide +kernel) rfl, by decide +kernel, ⟨by decide +kernel, by decide +kernel, by decide +kernel⟩, by decide +kernel, Or.inr (Or.inl ⟨rfl, pq_gt_mem 4194 (by decide +kernel) rfl, pq_gt_mem 4195 (by decide +kernel) rfl, Or.inl (by decide +kernel)⟩)⟩, pd_rows (by decide +kernel)⟩
set_option maxRecDepth 100000 in
theorem pk_124 : pq_mok pq_tab pm_124 := ⟨⟨pq_gt_mem 4202 rfl rfl, pq_gt_mem 1010 (by decide +kernel) rfl, by decide +kernel, ⟨by decide +kernel, by decide +kernel, by decide +kernel⟩, by decide +kernel, Or.inr (Or.inl ⟨rfl, pq_gt_mem 4201 (by decide +kernel) rfl, pq_gt_mem 21 (by decide +kernel) rfl, Or.inl (by decide +kernel)⟩)⟩, pd_rows (by decide +kernel)⟩
set_option maxRecDepth 100000 in
theorem pk_125 : pq_mok pq_tab pm_125 := ⟨⟨pq_gt_mem 4207 rfl rfl, pq_gt_mem 1010 (by decide +kernel) rfl, by decide +kernel, ⟨by decide +kernel, by decide +kernel, by decide +kernel⟩, by decide +kernel, Or.inr (Or.inl ⟨rfl, pq_gt_mem 4206 (by decide +kernel) rfl, pq_gt_mem 22 (by decide +kernel) rfl, Or.inl (by decide +kernel)⟩)⟩, pd_rows (by decide +kernel)⟩
set_option maxRecDepth 100000 in
theorem pk_126 : pq_mok pq_tab pm_126 := ⟨⟨pq_gt_mem 4212 rfl rfl, pq_gt_mem 1010 (by decide +kernel) rfl, by decide +kernel, ⟨by decide +kernel, by decide +kernel, by decide +kernel⟩, by decide +kernel, Or.inr (Or.inl ⟨rfl, pq_gt_mem 4211 (by decide +kernel) rfl, pq_gt_mem 23 (by decide +kernel) rfl, Or.inl (by decide +kernel)⟩)⟩, pd_rows (by decide +kernel)⟩
set_option maxRecDepth 100000 in
theorem pk_127 : pq_mok pq_tab pm_127 := ⟨⟨pq_gt_mem 4216 rfl rfl, pq_gt_mem 1010 (by decide +kernel) rfl, by decide +kernel, ⟨by decide +kernel, by decide +kernel, by decide +kernel⟩, by decide +kernel, Or.inr (Or.inl ⟨rfl, pq_gt_mem 4215 (by decide +kernel) rfl, pq_gt_mem 24 (by decide +kernel) rfl, Or.inl (by decide +kernel)⟩)⟩, pd_rows (by decide +kernel)⟩
set_option maxRecDepth 100000 in
theorem pk_128 : pq_mok pq_tab pm_128 := ⟨⟨pq_gt_mem 4223 rfl rfl, pq_gt_mem 1010 (by decide +kernel) rfl, by decide +kernel, ⟨by decide +kernel, by decide +kernel, by decide +kernel⟩, by decide +kernel, Or.inr (Or.inl ⟨rfl, pq_gt_mem 4222 (by decide +kernel) rfl, pq_gt_mem 25 (by decide +kernel) rfl, Or.inl (by decide +kernel)⟩)⟩, pd_rows (by decide +kernel)⟩
set_option maxRecDepth 100000 in
theorem pk_129 : pq_mok pq_tab pm_129 := ⟨⟨pq_gt_mem 4227 rfl rfl, pq_gt_mem 1010 (by decide +kernel) rfl, by decide +kernel, ⟨by decide +kernel, by decide +kernel, by decide +kernel⟩, by decide +kernel, Or.inr (Or.inl ⟨rfl, pq_gt_mem 4226 (by decide +kernel) rfl, pq_gt_mem 26 (by decide +kernel) rfl, Or.inl (by decide +kernel)⟩)⟩, pd_rows (by decide +kernel)⟩
set_option maxRecDepth 100000 in
theorem pk_130 : pq_mok pq_tab pm_130 := ⟨⟨pq_gt_mem 4231 rfl rfl, pq_gt_mem 1010 (by decide +kernel) rfl, by decide +kernel, ⟨by decide +kernel, by decide +kernel, by decide +kernel⟩, by decide +kernel, Or.inr (Or.inl ⟨rfl, pq_gt_mem 4229 (by decide +kernel) rfl, pq_gt_mem 4230 (by decide +kernel) rfl, Or.inl (by decide +kernel)⟩)⟩, pd_rows (by decide +kernel)⟩
set_option maxRecDepth 100000 in
theorem pk_131 : pq_mok pq_tab pm_131 := ⟨⟨pq_gt_mem 4235 rfl rfl, pq_gt_mem 1001 (by decide +kernel) rfl, by decide +kernel, ⟨by decide +kernel, by decide +kernel, by decide +kernel⟩, by decide +kernel, Or.inr (Or.inl ⟨rfl, pq_gt_mem 4233 (by decide +kernel) rfl, pq_gt_mem 4234 (by decide +kernel) rfl, Or.inl (by decide +kernel)⟩)⟩, pd_rows (by decide +kernel)⟩
set_option maxRecDepth 100000 in
theorem pk_132 : pq_mok pq_tab pm_132 := ⟨⟨pq_gt_mem 4239 rfl rfl, pq_gt_mem 1010 (by decide +kernel) rfl, by decide +kernel, ⟨by decide +kernel, by decide +kernel, by decide +kernel⟩, by decide +kernel, Or.inr (Or.inl ⟨rfl, pq_gt_mem 4237 (by decide +kernel) rfl, pq_gt_mem 4238 (by decide +kernel) rfl, Or.inl (by decide +kernel)⟩)⟩, pd_rows (by decide +kernel)⟩
set_option maxRecDepth 100000 in
theorem pk_133 : pq_mok pq_tab pm_133 := ⟨⟨pq_gt_mem 5003 rfl rfl, pq_gt_mem 1001 (by decide +kernel) rfl, by decide +kernel, ⟨by decide +kernel, by decide +kernel, by decide +kernel⟩, by decide +kernel, Or.inr (Or.inl ⟨rfl, pq_gt_mem 5001 (by decide +kernel) rfl, pq_gt_mem 5002 (by decide +kernel) rfl, Or.inl (by decide +kernel)⟩)⟩, pd_rows (by decide +kernel)⟩
set_option maxRecDepth 100000 in
theorem pk_134 : pq_mok pq_tab pm_134 := ⟨⟨pq_gt_mem 5007 rfl rfl, pq_gt_mem 1011 (by decide +kernel) rfl, by decide +kernel, ⟨by decide +kernel, by decide +kernel, by decide +kernel⟩, by decide +kernel, Or.inr (Or.inl ⟨rfl, pq_gt_mem 5005 (by decide +kernel) rfl, pq_gt_mem 5006 (by decide +kernel) rfl, Or.inl (by decide +kernel)⟩)⟩, pd_rows (by decide +kernel)⟩
set_option maxRecDepth 100000 in
theorem pk_135 : pq_mok pq_tab pm_135 := ⟨⟨pq_gt_mem 5012 rfl rfl, pq_gt_mem 1011 (by decide +kernel) rfl, by decide +kernel, ⟨by decide +kernel, by decide +kernel, by decide +kernel⟩, by decide +kernel, Or.inr (Or.inl ⟨rfl, pq_gt_mem 5011 (by decide +kernel) rfl, pq_gt_mem 27 (by decide +kernel) rfl, Or.inl (by decide +kernel)⟩)⟩, pd_rows (by decide +kernel)⟩
set_option maxRecDepth 100000 in
theorem pk_136 : pq_mok pq_tab pm_136 := ⟨⟨pq_gt_mem 5015 rfl rfl, pq_gt_mem 1011 (by decide +kernel) rfl, by decide +kernel, ⟨by decide +kernel, by decide +kernel, by decide +kernel⟩, by decide +kernel, Or.inl ⟨rfl, pq_gt_mem 5014 (by decide +kernel) rfl⟩⟩, pd_rows (by decide +kernel)⟩
set_option maxRecDepth 100000 in
theorem pk_137 : pq_mok pq_tab pm_137 := ⟨⟨pq_gt_mem 5024 rfl rfl, pq_gt_mem 1011 (by decide +kernel) rfl, by decide +kernel, ⟨by decide +kernel, by decide +kernel, by decide +kernel⟩, by decide +kernel, Or.inr (Or.inl ⟨rfl, pq_gt_mem 5023 (by decide +kernel) rfl, pq_gt_mem 28 (by decide +kernel) rfl, Or.inl (by decide +kernel)⟩)⟩, pd_rows (by decide +kernel)⟩
set_option maxRecDepth 100000 in
theorem pk_138 : pq_mok pq_tab pm_138 := ⟨⟨pq_gt_mem 5028 rfl rfl, pq_gt_mem 1001 (by decide +kernel) rfl, by decide +kernel, ⟨by decide +kernel, by decide +kernel, by decide +kernel⟩, by decide +kernel, Or.inr (Or.inl ⟨rfl, pq_gt_mem 5026 (by decide +kernel) rfl, pq_gt_mem 5027 (by decide +kernel) rfl, Or.inl (by decide +kernel)⟩)⟩, pd_rows (by decide +kernel)⟩
set_option maxRecDepth 100000 in
theorem pk_139 : pq_mok pq_tab pm_139 := ⟨⟨pq_gt_mem 5032 rfl rfl, pq_gt_mem 1001 (by decide +kernel) rfl, by decide +kernel, ⟨by decide +kernel, by decide +kernel, by decide +kernel⟩, by decide +kernel, Or.inr (Or.inl ⟨rfl, pq_gt_mem 5030 (by decide +kernel) rfl, pq_gt_mem 5031 (by decide +kernel) rfl, Or.inl (by decide +kernel)⟩)⟩, pd_rows (by decide +kernel)⟩
set_option maxRecDepth 100000 in
theorem pk_140 : pq_mok pq_tab pm_140 := ⟨⟨pq_gt_mem 5035 rfl rfl, pq_gt_mem 1001 (by decide +kernel) rfl, by decide +kernel, ⟨by decide +kernel, by decide +kernel, by decide +kernel⟩, by decide +kernel, Or.inl ⟨rfl, pq_gt_mem 5034 (by decide +kernel) rfl⟩⟩, pd_rows (by decide +kernel)⟩
set_option maxRecDepth 100000 in
theorem pk_141 : pq_mok pq_tab pm_141 := ⟨⟨pq_gt_mem 5039 rfl rfl, pq_gt_mem 1012 (by decide +kernel) rfl, by decide +kernel, ⟨by decide +kernel, by decide +kernel, by decide +kernel⟩, by decide +kernel, Or.inr (Or.inl ⟨rfl, pq_gt_mem 5037 (by decide +kernel) rfl, pq_gt_mem 5038 (by decide +kernel) rfl, Or.inl (by decide +kernel)⟩)⟩, pd_rows (by decide +kernel)⟩
set_option maxRecDepth 100000 in
theorem pk_142 : pq_mok pq_tab pm_142 := ⟨⟨pq_gt_mem 5046 rfl rfl, pq_gt_mem 1001 (by decide +kernel) rfl, by decide +kernel, ⟨by decide +kernel, by decide +kernel, by decide +kernel⟩, by decide +kernel, Or.inr (Or.inl ⟨rfl, pq_gt_mem 5044 (by decide +kernel) rfl, pq_gt_mem 5045 (by decide +kernel) rfl, Or.inl (by decide +kernel)⟩)⟩, pd_rows (by decide +kernel)⟩
set_option maxRecDepth 100000 in
theorem pk_143 : pq_mok pq_tab pm_143 := ⟨⟨pq_gt_mem 5050 rfl rfl, pq_gt_mem 1012 (by decide +kernel) rfl, by decide +kernel, ⟨by decide +kernel, by decide +kernel, by decide +kernel⟩, by decide +kernel, Or.inr (Or.inl ⟨rfl, pq_gt_mem 5048 (by decide +kernel) rfl, pq_gt_mem 5049 (by decide +kernel) rfl, Or.inl (by decide +kernel)⟩)⟩, pd_rows (by decide +kernel)⟩
set_option maxRecDepth 100000 in
theorem pk_144 : pq_mok pq_tab pm_144 := ⟨⟨pq_gt_mem 5053 rfl rfl, pq_gt_mem 1012 (by decide +kernel) rfl, by decide +kernel, ⟨by decide +kernel, by decide +kernel, by decide +kernel⟩, by decide +kernel, Or.inl ⟨rfl, pq_gt_mem 5052 (by decide +kernel) rfl⟩⟩, pd_rows (by decide +kernel)⟩
set_option maxRecDepth 100000 in
theorem pk_145 : pq_mok pq_tab pm_145 := ⟨⟨pq_gt_mem 5057 rfl rfl, pq_gt_mem 1001 (by decide +kernel) rfl, by decide +kernel, ⟨by decide +kernel, by decide +kernel, by decide +kernel⟩, by decide +kernel, Or.inr (Or.inl ⟨rfl, pq_gt_mem 5055 (by decide +kernel) rfl, pq_gt_mem 5056 (by decide +kernel) rfl, Or.inl (by decide +kernel)⟩)⟩, pd_rows (by decide +kernel)⟩
set_option maxRecDepth 100000 in
theorem pk_146 : pq_mok pq_tab pm_146 := ⟨⟨pq_gt_mem 5061 rfl rfl, pq_gt_mem 1012 (by decide +kernel) rfl, by decide +kernel, ⟨by decide +kernel, by decide +kernel, by decide +kernel⟩, by decide +kernel, Or.inr (Or.inl ⟨rfl, pq_gt_mem 5059 (by decide +kernel) rfl, pq_gt_mem 5060 (by decide +kernel) rfl, Or.inl (by decide +kernel)⟩)⟩, pd_rows (by decide +kernel)⟩
set_option maxRecDepth 100000 in
theorem pk_147 : pq_mok pq_tab pm_147 := ⟨⟨pq_gt_mem 5066 rfl rfl, pq_gt_mem 1001 (by decide +kernel) rfl, by decide +kernel, ⟨by decide +kernel, by decide +kernel, by decide +kernel⟩, by decide +kernel, Or.inr (Or.inl ⟨rfl, pq_gt_mem 5064 (by decide +kernel) rfl, pq_gt_mem 5065 (by decide +kernel) rfl, Or.inl (by decide +kernel)⟩)⟩, pd_rows (by decide +kernel)⟩
set_option maxRecDepth 100000 in
theorem pk_148 : pq_mok pq_tab pm_148 := ⟨⟨pq_gt_mem 5070 rfl rfl, pq_gt_mem 1002 (by decide +kernel) rfl, by decide +kernel, ⟨by decide +kernel, by decide +kernel, by decide +kernel⟩, by decide +kernel, Or.inr (Or.inl ⟨rfl, pq_gt_mem 5068 (by decide +kernel) rfl, pq_gt_mem 5069 (by decide +kernel) rfl, Or.inl (by decide +kernel)⟩)⟩, pd_rows (by decide +kernel)⟩
set_option maxRecDepth 100000 in
theorem pk_149 : pq_mok pq_tab pm_149 := ⟨⟨pq_gt_mem 5075 rfl rfl, pq_gt_mem 1004 (by decide +kernel) rfl, by decide +kernel, ⟨by decide +kernel, by decide +kernel, by decide +kernel⟩, by decide +kernel, Or.inr (Or.inl ⟨rfl, pq_gt_mem 5073 (by decide +kernel) rfl, pq_gt_mem 5074 (by decide +kernel) rfl, Or.inl (by decide +kernel)⟩)⟩, pd_rows (by decide +kernel)⟩
