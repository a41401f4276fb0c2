set_option maxRecDepth 100000 in
theorem pk_30 : pq_mok pq_tab pm_30 := ⟨⟨pq_gt_mem 3025 rfl rfl, pq_gt_mem 1004 (by decide +kernel) rfl, by decide +kernel, ⟨by decide +kernel, by decide +kernel, by decide +kernel⟩, by decide +kernel, Or.inr (Or.inl ⟨rfl, pq_gt_mem 3023 (by decide +kernel) rfl, pq_gt_mem 3024 (by decide +kernel) rfl, Or.inl (by decide +kernel)⟩)⟩, pd_rows (by decide +kernel)⟩
set_option maxRecDepth 100000 in
theorem pk_31 : pq_mok pq_tab pm_31 := ⟨⟨pq_gt_mem 3029 rfl rfl, pq_gt_mem 1001 (by decide +kernel) rfl, by decide +kernel, ⟨by decide +kernel, by decide +kernel, by decide +kernel⟩, by decide +kernel, Or.inr (Or.inl ⟨rfl, pq_gt_mem 3027 (by decide +kernel) rfl, pq_gt_mem 3028 (by decide +kernel) rfl, Or.inl (by decide +kernel)⟩)⟩, pd_rows (by decide +kernel)⟩
set_option maxRecDepth 100000 in
theorem pk_32 : pq_mok pq_tab pm_32 := ⟨⟨pq_gt_mem 3032 rfl rfl, pq_gt_mem 1001 (by decide +kernel) rfl, by decide +kernel, ⟨by decide +kernel, by decide +kernel, by decide +kernel⟩, by decide +kernel, Or.inl ⟨rfl, pq_gt_mem 3031 (by decide +kernel) rfl⟩⟩, pd_rows (by decide +kernel)⟩
set_option maxRecDepth 100000 in
theorem pk_33 : pq_mok pq_tab pm_33 := ⟨⟨pq_gt_mem 3036 rfl rfl, pq_gt_mem 1004 (by decide +kernel) rfl, by decide +kernel, ⟨by decide +kernel, by decide +kernel, by decide +kernel⟩, by decide +kernel, Or.inr (Or.inl ⟨rfl, pq_gt_mem 3034 (by decide +kernel) rfl, pq_gt_mem 3035 (by decide +kernel) rfl, Or.inl (by decide +kernel)⟩)⟩, pd_rows (by decide +kernel)⟩
set_option maxRecDepth 100000 in
theorem pk_34 : pq_mok pq_tab pm_34 := ⟨⟨pq_gt_mem 3040 rfl rfl, pq_gt_mem 1004 (by decide +kernel) rfl, by decide +kernel, ⟨by decide +kernel, by decide +kernel, by decide +kernel⟩, by decide +kernel, Or.inr (Or.inl ⟨rfl, pq_gt_mem 3038 (by decide +kernel) rfl, pq_gt_mem 3039 (by decide +kernel) rfl, Or.inl (by decide +kernel)⟩)⟩, pd_rows (by decide +kernel)⟩
set_option maxRecDepth 100000 in
theorem pk_35 : pq_mok pq_tab pm_35 := ⟨⟨pq_gt_mem 3044 rfl rfl, pq_gt_mem 1001 (by decide +kernel) rfl, by decide +kernel, ⟨by decide +kernel, by decide +kernel, by decide +kernel⟩, by decide +kernel, Or.inr (Or.inl ⟨rfl, pq_gt_mem 3042 (by decide +kernel) rfl, pq_gt_mem 3043 (by decide +kernel) rfl, Or.inl (by decide +kernel)⟩)⟩, pd_rows (by decide +kernel)⟩
set_option maxRecDepth 100000 in
theorem pk_36 : pq_mok pq_tab pm_36 := ⟨⟨pq_gt_mem 3048 rfl rfl, pq_gt_mem 1004 (by decide +kernel) rfl, by decide +kernel, ⟨by decide +kernel, by decide +kernel, by decide +kernel⟩, by decide +kernel, Or.inr (Or.inl ⟨rfl, pq_gt_mem 3046 (by decide +kernel) rfl, pq_gt_mem 3047 (by decide +kernel) rfl, Or.inl (by decide +kernel)⟩)⟩, pd_rows (by decide +kernel)⟩
set_option maxRecDepth 100000 in
theorem pk_37 : pq_mok pq_tab pm_37 := ⟨⟨pq_gt_mem 3051 rfl rfl, pq_gt_mem 1001 (by decide +kernel) rfl, by decide +kernel, ⟨by decide +kernel, by decide +kernel, by decide +kernel⟩, by decide +kernel, Or.inl ⟨rfl, pq_gt_mem 3050 (by decide +kernel) rfl⟩⟩, pd_rows (by decide +kernel)⟩
set_option maxRecDepth 100000 in
theorem pk_38 : pq_mok pq_tab pm_38 := ⟨⟨pq_gt_mem 3057 rfl rfl, pq_gt_mem 1001 (by decide +kernel) rfl, by decide +kernel, ⟨by decide +kernel, by decide +kernel, by decide +kernel⟩, by decide +kernel, Or.inr (Or.inl ⟨rfl, pq_gt_mem 3055 (by decide +kernel) rfl, pq_gt_mem 3056 (by decide +kernel) rfl, Or.inl (by decide +kernel)⟩)⟩, pd_rows (by decide +kernel)⟩
set_option maxRecDepth 100000 in
theorem pk_39 : pq_mok pq_tab pm_39 := ⟨⟨pq_gt_mem 3061 rfl rfl, pq_gt_mem 1008 (by decide +kernel) rfl, by decide +kernel, ⟨by decide +kernel, by decide +kernel, by decide +kernel⟩, by decide +kernel, Or.inr (Or.inl ⟨rfl, pq_gt_mem 3059 (by decide +kernel) rfl, pq_gt_mem 3060 (by decide +kernel) rfl, Or.inl (by decide +kernel)⟩)⟩, pd_rows (by decide +kernel)⟩
set_option maxRecDepth 100000 in
theorem pk_40 : pq_mok pq_tab pm_40 := ⟨⟨pq_gt_mem 3066 rfl rfl, pq_gt_mem 1008 (by decide +kernel) rfl, by decide +kernel, ⟨by decide +kernel, by decide +kernel, by decide +kernel⟩, by decide +kernel, Or.inr (Or.inl ⟨rfl, pq_gt_mem 3065 (by decide +kernel) rfl, pq_gt_mem 1 (by decide +kernel) rfl, Or.inl (by decide +kernel)⟩)⟩, pd_rows (by decide +kernel)⟩
set_option maxRecDepth 100000 in
theorem pk_41 : pq_mok pq_tab pm_41 := ⟨⟨pq_gt_mem 3070 rfl rfl, pq_gt_mem 1006 (by decide +kernel) rfl, by decide +kernel, ⟨by decide +kernel, by decide +kernel, by decide +kernel⟩, by decide +kernel, Or.inr (Or.inl ⟨rfl, pq_gt_mem 3068 (by decide +kernel) rfl, pq_gt_mem 3069 (by decide +kernel) rfl, Or.inl (by decide +kernel)⟩)⟩, pd_rows (by decide +kernel)⟩
set_option maxRecDepth 100000 in
theorem pk_42 : pq_mok pq_tab pm_42 := ⟨⟨pq_gt_mem 3074 rfl rfl, pq_gt_mem 1005 (by decide +kernel) rfl, by decide +kernel, ⟨by decide +kernel, by decide +kernel, by decide +kernel⟩, by decide +kernel, Or.inr (Or.inl ⟨rfl, pq_gt_mem 3072 (by decide +kernel) rfl, pq_gt_mem 3073 (by decide +kernel) rfl, Or.inl (by decide +kernel)⟩)⟩, pd_rows (by decide +kernel)⟩
set_option maxRecDepth 100000 in
theorem pk_43 : pq_mok pq_tab pm_43 := ⟨⟨pq_gt_mem 3077 rfl rfl, pq_gt_mem 1008 (by decide +kernel) rfl, by decide +kernel, ⟨by decide +kernel, by decide +kernel, by decide +kernel⟩, by decide +kernel, Or.inl ⟨rfl, pq_gt_mem 3076 (by decide +kernel) rfl⟩⟩, pd_rows (by decide +kernel)⟩
set_option maxRecDepth 100000 in
theorem pk_44 : pq_mok pq_tab pm_44 := ⟨⟨pq_gt_mem 3081 rfl rfl, pq_gt_mem 1008 (by decide +kernel) rfl, by decide +kernel, ⟨by decide +kernel, by decide +kernel, by decide +kernel⟩, by decide +kernel, Or.inr (Or.inl ⟨rfl, pq_gt_mem 3079 (by decide +kernel) rfl, pq_gt_mem 3080 (by decide +kernel) rfl, Or.inl (by decide +kernel)⟩)⟩, pd_rows (by decide +kernel)⟩
set_option maxRecDepth 100000 in
theorem pk_45 : pq_mok pq_tab pm_45 := ⟨⟨pq_gt_mem 3085 rfl rfl, pq_gt_mem 1005 (by decide +kernel) rfl, by decide +kernel, ⟨by decide +kernel, by decide +kernel, by decide +kernel⟩, by decide +kernel, Or.inr (Or.inl ⟨rfl, pq_gt_mem 3083 (by decide +kernel) rfl, pq_gt_mem 3084 (by decide +kernel) rfl, Or.inl (by decide +kernel)⟩)⟩, pd_rows (by decide +kernel)⟩
set_option maxRecDepth 100000 in
theorem pk_46 : pq_mok pq_tab pm_46 := ⟨⟨pq_gt_mem 3089 rfl rfl, pq_gt_mem 1008 (by decide +kernel) rfl, by decide +kernel, ⟨by decide +kernel, by decide +kernel, by decide +kernel⟩, by decide +kernel, Or.inr (Or.inl ⟨rfl, pq_gt_mem 3088 (by decide +kernel) rfl, pq_gt_mem 2 (by decide +kernel) rfl, Or.inl (by decide +kernel)⟩)⟩, pd_rows (by decide +kernel)⟩
set_option maxRecDepth 100000 in
theorem pk_47 : pq_mok pq_tab pm_47 := ⟨⟨pq_gt_mem 3096 rfl rfl, pq_gt_mem 1002 (by decide +kernel) rfl, by decide +kernel, ⟨by decide +kernel, by decide +kernel, by decide +kernel⟩, by decide +kernel, Or.inr (Or.inl ⟨rfl, pq_gt_mem 3094 (by decide +kernel) rfl, pq_gt_mem 3095 (by decide +kernel) rfl, Or.inl (by decide +kernel)⟩)⟩, pd_rows (by decide +kernel)⟩
set_option maxRecDepth 100000 in
theorem pk_48 : pq_mok pq_tab pm_48 := ⟨⟨pq_gt_mem 3100 rfl rfl, pq_gt_mem 1008 (by decide +kernel) rfl, by decide +kernel, ⟨by decide +kernel, by decide +kernel, by decide +kernel⟩, by decide +kernel, Or.inr (Or.inl ⟨rfl, pq_gt_mem 3099 (by decide +kernel) rfl, pq_gt_mem 3 (by decide +kernel) rfl, Or.inl (by decide +kernel)⟩)⟩, pd_rows (by decide +kernel)⟩
set_option maxRecDepth 100000 in
theorem pk_49 : pq_mok pq_tab pm_49 := ⟨⟨pq_gt_mem 3104 rfl rfl, pq_gt_mem 1008 (by decide +kernel) rfl, by decide +kernel, ⟨by decide +kernel, by decide +kernel, by decide +kernel⟩, by decide +kernel, Or.inr (Or.inl ⟨rfl, pq_gt_mem 3103 (by decide +kernel) rfl, pq_gt_mem 4 (by decide +kernel) rfl, Or.inl (by decide +kernel)⟩)⟩, pd_rows (by decide +kernel)⟩
set_option maxRecDepth 100000 in
theorem pk_50 : pq_mok pq_tab pm_50 := ⟨⟨pq_gt_mem 3107 rfl rfl, pq_gt_mem 1008 (by decide +kernel) rfl, by decide +kernel, ⟨by decide +kernel, by decide +kernel, by decide +kernel⟩, by decide +kernel, Or.inl ⟨rfl, pq_gt_mem 3106 (by decide +kernel) rfl⟩⟩, pd_rows (by decide +kernel)⟩
set_option maxRecDepth 100000 in
theorem pk_51 : pq_mok pq_tab pm_51 := ⟨⟨pq_gt_mem 3114 rfl rfl, pq_gt_mem 1001 (by decide +kernel) rfl, by decide +kernel, ⟨by decide +kernel, by decide +kernel, by decide +kernel⟩, by decide +kernel, Or.inr (Or.inl ⟨rfl, pq_gt_mem 3112 (by decide +kernel) rfl, pq_gt_mem 3113 (by decide +kernel) rfl, Or.inl (by decide +kernel)⟩)⟩, pd_rows (by decide +kernel)⟩
set_option maxRecDepth 100000 in
theorem pk_52 : pq_mok pq_tab pm_52 := ⟨⟨pq_gt_mem 3119 rfl rfl, pq_gt_mem 1001 (by decide +kernel) rfl, by decide +kernel, ⟨by decide +kernel, by decide +kernel, by decide +kernel⟩, by decide +kernel, Or.inr (Or.inl ⟨rfl, pq_gt_mem 3117 (by decide +kernel) rfl, pq_gt_mem 3118 (by decide +kernel) rfl, Or.inl (by decide +kernel)⟩)⟩, pd_rows (by decide +kernel)⟩
set_option maxRecDepth 100000 in
theorem pk_53 : pq_mok pq_tab pm_53 := ⟨⟨pq_gt_mem 3123 rfl rfl, pq_gt_mem 1001 (by decide +kernel) rfl, by decide +kernel, ⟨by decide +kernel, by decide +kernel, by decide +kernel⟩, by decide +kernel, Or.inr (Or.inl ⟨rfl, pq_gt_mem 3121 (by decide +kernel) rfl, pq_gt_mem 3122 (by decide +kernel) rfl, Or.inl (by decide +kernel)⟩)⟩, pd_rows (by decide +kernel)⟩
set_option maxRecDepth 100000 in
theorem pk_54 : pq_mok pq_tab pm_54 := ⟨⟨pq_gt_mem 3127 rfl rfl, pq_gt_mem 1004 (by decide +kernel) rfl, by decide +kernel, ⟨by decide +kernel, by decide +kernel, by decide +kernel⟩, by decide +kernel, Or.inr (Or.inl ⟨rfl, pq_gt_mem 3125 (by decide +kernel) rfl, pq_gt_mem 3126 (by decide +kernel) rfl, Or.inl (by decide +kernel)⟩)⟩, pd_rows (by decide +kernel)⟩
set_option maxRecDepth 100000 in
theorem pk_55 : pq_mok pq_tab pm_55 := ⟨⟨pq_gt_mem 3132 rfl rfl, pq_gt_mem 1001 (by decide +kernel) rfl, by decide +kernel, ⟨by decide +kernel, by decide +kernel, by decide +kernel⟩, by decide +kernel, Or.inr (Or.inl ⟨rfl, pq_gt_mem 3130 (by decide +kernel) rfl, pq_gt_mem 3131 (by decide +kernel) rfl, Or.inl (by decide +kernel)⟩)⟩, pd_rows (by decide +kernel)⟩
set_option maxRecDepth 100000 in
theorem pk_56 : pq_mok pq_tab pm_56 := ⟨⟨pq_gt_mem 3136 rfl rfl, pq_gt_mem 1001 (by decide +kernel) rfl, by decide +kernel, ⟨by decide +kernel, by decide +kernel, by decide +kernel⟩, by decide +kernel, Or.inr (Or.inl ⟨rfl, pq_gt_mem 3134 (by decide +kernel) rfl, pq_gt_mem 3135 (by decide +kernel) rfl, Or.inl (by decide +kernel)⟩)⟩, pd_rows (by decide +kernel)⟩
set_option maxRecDepth 100000 in
theorem pk_57 : pq_mok pq_tab pm_57 := ⟨⟨pq_gt_mem 3140 rfl rfl, pq_gt_mem 1004 (by decide +kernel) rfl, by decide +kernel, ⟨by decide +kernel, by decide +kernel, by decide +kernel⟩, by decide +kernel, Or.inr (Or.inl ⟨rfl, pq_gt_mem 3138 (by decide +kernel) rfl, pq_gt_mem 3139 (by decide +kernel) rfl, Or.inl (by decide +kernel)⟩)⟩, pd_rows (by decide +kernel)⟩
set_option maxRecDepth 100000 in
theorem pk_58 : pq_mok pq_tab pm_58 := ⟨⟨pq_gt_mem 3144 rfl rfl, pq_gt_mem 1003 (by decide +kernel) rfl, by decide +kernel, ⟨by decide +kernel, by decide +kernel, by decide +kernel⟩, by decide +kernel, Or.inl ⟨rfl, pq_gt_mem 3143 (by decide +kernel) rfl⟩⟩, pd_rows (by decide +kernel)⟩
set_option maxRecDepth 100000 in
theorem pk_59 : pq_mok pq_tab pm_59 := ⟨⟨pq_gt_mem 3147 rfl rfl, pq_gt_mem 1003 (by decide +kernel) rfl, by decide +kernel, ⟨by decide +kernel, by decide +kernel, by decide +kernel⟩, by decide +kernel, Or.inl ⟨rfl, pq_gt_mem 3146 (by decide +kernel) rfl⟩⟩, pd_rows (by decide +kernel)⟩
