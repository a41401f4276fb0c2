set_option maxRecDepth 100000 in
theorem pk_180 : pq_mok pq_tab pm_180 := ⟨⟨pq_gt_mem 6048 rfl rfl, pq_gt_mem 1013 (by decide +kernel) rfl, by decide +kernel, ⟨by decide +kernel, by decide +kernel, by decide +kernel⟩, by decide +kernel, Or.inr (Or.inl ⟨rfl, pq_gt_mem 6047 (by decide +kernel) rfl, pq_gt_mem 33 (by decide +kernel) rfl, Or.inl (by decide +kernel)⟩)⟩, pd_rows (by decide +kernel)⟩
set_option maxRecDepth 100000 in
theorem pk_181 : pq_mok pq_tab pm_181 := ⟨⟨pq_gt_mem 6052 rfl rfl, pq_gt_mem 1013 (by decide +kernel) rfl, by decide +kernel, ⟨by decide +kernel, by decide +kernel, by decide +kernel⟩, by decide +kernel, Or.inr (Or.inl ⟨rfl, pq_gt_mem 6051 (by decide +kernel) rfl, pq_gt_mem 34 (by decide +kernel) rfl, Or.inl (by decide +kernel)⟩)⟩, pd_rows (by decide +kernel)⟩
set_option maxRecDepth 100000 in
theorem pk_182 : pq_mok pq_tab pm_182 := ⟨⟨pq_gt_mem 6055 rfl rfl, pq_gt_mem 1013 (by decide +kernel) rfl, by decide +kernel, ⟨by decide +kernel, by decide +kernel, by decide +kernel⟩, by decide +kernel, Or.inl ⟨rfl, pq_gt_mem 6054 (by decide +kernel) rfl⟩⟩, pd_rows (by decide +kernel)⟩
set_option maxRecDepth 100000 in
theorem pk_183 : pq_mok pq_tab pm_183 := ⟨⟨pq_gt_mem 6059 rfl rfl, pq_gt_mem 1013 (by decide +kernel) rfl, by decide +kernel, ⟨by decide +kernel, by decide +kernel, by decide +kernel⟩, by decide +kernel, Or.inr (Or.inl ⟨rfl, pq_gt_mem 6058 (by decide +kernel) rfl, pq_gt_mem 35 (by decide +kernel) rfl, Or.inl (by decide +kernel)⟩)⟩, pd_rows (by decide +kernel)⟩
set_option maxRecDepth 100000 in
theorem pk_184 : pq_mok pq_tab pm_184 := ⟨⟨pq_gt_mem 6063 rfl rfl, pq_gt_mem 1013 (by decide +kernel) rfl, by decide +kernel, ⟨by decide +kernel, by decide +kernel, by decide +kernel⟩, by decide +kernel, Or.inr (Or.inl ⟨rfl, pq_gt_mem 6062 (by decide +kernel) rfl, pq_gt_mem 36 (by decide +kernel) rfl, Or.inl (by decide +kernel)⟩)⟩, pd_rows (by decide +kernel)⟩
set_option maxRecDepth 100000 in
theorem pk_185 : pq_mok pq_tab pm_185 := ⟨⟨pq_gt_mem 6067 rfl rfl, pq_gt_mem 1013 (by decide +kernel) rfl, by decide +kernel, ⟨by decide +kernel, by decide +kernel, by decide +kernel⟩, by decide +kernel, Or.inr (Or.inl ⟨rfl, pq_gt_mem 6066 (by decide +kernel) rfl, pq_gt_mem 37 (by decide +kernel) rfl, Or.inl (by decide +kernel)⟩)⟩, pd_rows (by decide +kernel)⟩
set_option maxRecDepth 100000 in
theorem pk_186 : pq_mok pq_tab pm_186 := ⟨⟨pq_gt_mem 6071 rfl rfl, pq_gt_mem 1013 (by decide +kernel) rfl, by decide +kernel, ⟨by decide +kernel, by decide +kernel, by decide +kernel⟩, by decide +kernel, Or.inr (Or.inl ⟨rfl, pq_gt_mem 6070 (by decide +kernel) rfl, pq_gt_mem 38 (by decide +kernel) rfl, Or.inl (by decide +kernel)⟩)⟩, pd_rows (by decide +kernel)⟩
set_option maxRecDepth 100000 in
theorem pk_187 : pq_mok pq_tab pm_187 := ⟨⟨pq_gt_mem 6075 rfl rfl, pq_gt_mem 1013 (by decide +kernel) rfl, by decide +kernel, ⟨by decide +kernel, by decide +kernel, by decide +kernel⟩, by decide +kernel, Or.inr (Or.inl ⟨rfl, pq_gt_mem 6074 (by decide +kernel) rfl, pq_gt_mem 39 (by decide +kernel) rfl, Or.inl (by decide +kernel)⟩)⟩, pd_rows (by decide +kernel)⟩
set_option maxRecDepth 100000 in
theorem pk_188 : pq_mok pq_tab pm_188 := ⟨⟨pq_gt_mem 6078 rfl rfl, pq_gt_mem 1013 (by decide +kernel) rfl, by decide +kernel, ⟨by decide +kernel, by decide +kernel, by decide +kernel⟩, by decide +kernel, Or.inl ⟨rfl, pq_gt_mem 6077 (by decide +kernel) rfl⟩⟩, pd_rows (by decide +kernel)⟩
set_option maxRecDepth 100000 in
theorem pk_189 : pq_mok pq_tab pm_189 := ⟨⟨pq_gt_mem 6084 rfl rfl, pq_gt_mem 1013 (by decide +kernel) rfl, by decide +kernel, ⟨by decide +kernel, by decide +kernel, by decide +kernel⟩, by decide +kernel, Or.inr (Or.inl ⟨rfl, pq_gt_mem 6082 (by decide +kernel) rfl, pq_gt_mem 6083 (by decide +kernel) rfl, Or.inl (by decide +kernel)⟩)⟩, pd_rows (by decide +kernel)⟩
set_option maxRecDepth 100000 in
theorem pk_190 : pq_mok pq_tab pm_190 := ⟨⟨pq_gt_mem 6089 rfl rfl, pq_gt_mem 1013 (by decide +kernel) rfl, by decide +kernel, ⟨by decide +kernel, by decide +kernel, by decide +kernel⟩, by decide +kernel, Or.inr (Or.inl ⟨rfl, pq_gt_mem 6087 (by decide +kernel) rfl, pq_gt_mem 6088 (by decide +kernel) rfl, Or.inl (by decide +kernel)⟩)⟩, pd_rows (by decide +kernel)⟩
set_option maxRecDepth 100000 in
theorem pk_191 : pq_mok pq_tab pm_191 := ⟨⟨pq_gt_mem 6093 rfl rfl, pq_gt_mem 1013 (by decide +kernel) rfl, by decide +kernel, ⟨by decide +kernel, by decide +kernel, by decide +kernel⟩, by decide +kernel, Or.inr (Or.inl ⟨rfl, pq_gt_mem 6091 (by decide +kernel) rfl, pq_gt_mem 6092 (by decide +kernel) rfl, Or.inl (by decide +kernel)⟩)⟩, pd_rows (by decide +kernel)⟩
set_option maxRecDepth 100000 in
theorem pk_192 : pq_mok pq_tab pm_192 := ⟨⟨pq_gt_mem 6097 rfl rfl, pq_gt_mem 1013 (by decide +kernel) rfl, by decide +kernel, ⟨by decide +kernel, by decide +kernel, by decide +kernel⟩, by decide +kernel, Or.inr (Or.inl ⟨rfl, pq_gt_mem 6096 (by decide +kernel) rfl, pq_gt_mem 40 (by decide +kernel) rfl, Or.inl (by decide +kernel)⟩)⟩, pd_rows (by decide +kernel)⟩
set_option maxRecDepth 100000 in
theorem pk_193 : pq_mok pq_tab pm_193 := ⟨⟨pq_gt_mem 6101 rfl rfl, pq_gt_mem 1013 (by decide +kernel) rfl, by decide +kernel, ⟨by decide +kernel, by decide +kernel, by decide +kernel⟩, by decide +kernel, Or.inr (Or.inl ⟨rfl, pq_gt_mem 6099 (by decide +kernel) rfl, pq_gt_mem 6100 (by decide +kernel) rfl, Or.inl (by decide +kernel)⟩)⟩, pd_rows (by decide +kernel)⟩
set_option maxRecDepth 100000 in
theorem pk_194 : pq_mok pq_tab pm_194 := ⟨⟨pq_gt_mem 6105 rfl rfl, pq_gt_mem 1013 (by decide +kernel) rfl, by decide +kernel, ⟨by decide +kernel, by decide +kernel, by decide +kernel⟩, by decide +kernel, Or.inr (Or.inl ⟨rfl, pq_gt_mem 6103 (by decide +kernel) rfl, pq_gt_mem 6104 (by decide +kernel) rfl, Or.inl (by decide +kernel)⟩)⟩, pd_rows (by decide +kernel)⟩
set_option maxRecDepth 100000 in
theorem pk_195 : pq_mok pq_tab pm_195 := ⟨⟨pq_gt_mem 6110 rfl rfl, pq_gt_mem 1013 (by decide +kernel) rfl, by decide +kernel, ⟨by decide +kernel, by decide +kernel, by decide +kernel⟩, by decide +kernel, Or.inr (Or.inl ⟨rfl, pq_gt_mem 6108 (by decide +kernel) rfl, pq_gt_mem 6109 (by decide +kernel) rfl, Or.inl (by decide +kernel)⟩)⟩, pd_rows (by decide +kernel)⟩
set_option maxRecDepth 100000 in
theorem pk_196 : pq_mok pq_tab pm_196 := ⟨⟨pq_gt_mem 6116 rfl rfl, pq_gt_mem 1013 (by decide +kernel) rfl, by decide +kernel, ⟨by decide +kernel, by decide +kernel, by decide +kernel⟩, by decide +kernel, Or.inr (Or.inl ⟨rfl, pq_gt_mem 6114 (by decide +kernel) rfl, pq_gt_mem 6115 (by decide +kernel) rfl, Or.inl (by decide +kernel)⟩)⟩, pd_rows (by decide +kernel)⟩
set_option maxRecDepth 100000 in
theorem pk_197 : pq_mok pq_tab pm_197 := ⟨⟨pq_gt_mem 6121 rfl rfl, pq_gt_mem 1013 (by decide +kernel) rfl, by decide +kernel, ⟨by decide +kernel, by decide +kernel, by decide +kernel⟩, by decide +kernel, Or.inr (Or.inl ⟨rfl, pq_gt_mem 6120 (by decide +kernel) rfl, pq_gt_mem 41 (by decide +kernel) rfl, Or.inl (by decide +kernel)⟩)⟩, pd_rows (by decide +kernel)⟩
set_option maxRecDepth 100000 in
theorem pk_198 : pq_mok pq_tab pm_198 := ⟨⟨pq_gt_mem 6125 rfl rfl, pq_gt_mem 1013 (by decide +kernel) rfl, by decide +kernel, ⟨by decide +kernel, by decide +kernel, by decide +kernel⟩, by decide +kernel, Or.inr (Or.inl ⟨rfl, pq_gt_mem 6124 (by decide +kernel) rfl, pq_gt_mem 42 (by decide +kernel) rfl, Or.inl (by decide +kernel)⟩)⟩, pd_rows (by decide +kernel)⟩
set_option maxRecDepth 100000 in
theorem pk_199 : pq_mok pq_tab pm_199 := ⟨⟨pq_gt_mem 6129 rfl rfl, pq_gt_mem 1013 (by decide +kernel) rfl, by decide +kernel, ⟨by decide +kernel, by decide +kernel, by decide +kernel⟩, by decide +kernel, Or.inr (Or.inl ⟨rfl, pq_gt_mem 6128 (by decide +kernel) rfl, pq_gt_mem 43 (by decide +kernel) rfl, Or.inl (by decide +kernel)⟩)⟩, pd_rows (by decide +kernel)⟩
set_option maxRecDepth 100000 in
theorem pk_200 : pq_mok pq_tab pm_200 := ⟨⟨pq_gt_mem 6133 rfl rfl, pq_gt_mem 1013 (by decide +kernel) rfl, by decide +kernel, ⟨by decide +kernel, by decide +kernel, by decide +kernel⟩, by decide +kernel, Or.inr (Or.inl ⟨rfl, pq_gt_mem 6132 (by decide +kernel) rfl, pq_gt_mem 44 (by decide +kernel) rfl, Or.inl (by decide +kernel)⟩)⟩, pd_rows (by decide +kernel)⟩
set_option maxRecDepth 100000 in
theorem pk_201 : pq_mok pq_tab pm_201 := ⟨⟨pq_gt_mem 6137 rfl rfl, pq_gt_mem 1013 (by decide +kernel) rfl, by decide +kernel, ⟨by decide +kernel, by decide +kernel, by decide +kernel⟩, by decide +kernel, Or.inr (Or.inl ⟨rfl, pq_gt_mem 6136 (by decide +kernel) rfl, pq_gt_mem 45 (by decide +kernel) rfl, Or.inl (by decide +kernel)⟩)⟩, pd_rows (by decide +kernel)⟩
set_option maxRecDepth 100000 in
theorem pk_202 : pq_mok pq_tab pm_202 := ⟨⟨pq_gt_mem 6141 rfl rfl, pq_gt_mem 1013 (by decide +kernel) rfl, by decide +kernel, ⟨by decide +kernel, by decide +kernel, by decide +kernel⟩, by decide +kernel, Or.inr (Or.inl ⟨rfl, pq_gt_mem 6140 (by decide +kernel) rfl, pq_gt_mem 46 (by decide +kernel) rfl, Or.inl (by decide +kernel)⟩)⟩, pd_rows (by decide +kernel)⟩
set_option maxRecDepth 100000 in
theorem pk_203 : pq_mok pq_tab pm_203 := ⟨⟨pq_gt_mem 6145 rfl rfl, pq_gt_mem 1013 (by decide +kernel) rfl, by decide +kernel, ⟨by decide +kernel, by decide +kernel, by decide +kernel⟩, by decide +kernel, Or.inr (Or.inl ⟨rfl, pq_gt_mem 6144 (by decide +kernel) rfl, pq_gt_mem 47 (by decide +kernel) rfl, Or.inl (by decide +kernel)⟩)⟩, pd_rows (by decide +kernel)⟩
set_option maxRecDepth 100000 in
theorem pk_204 : pq_mok pq_tab pm_204 := ⟨⟨pq_gt_mem 6149 rfl rfl, pq_gt_mem 1013 (by decide +kernel) rfl, by decide +kernel, ⟨by decide +kernel, by decide +kernel, by decide +kernel⟩, by decide +kernel, Or.inr (Or.inl ⟨rfl, pq_gt_mem 6148 (by decide +kernel) rfl, pq_gt_mem 48 (by decide +kernel) rfl, Or.inl (by decide +kernel)⟩)⟩, pd_rows (by decide +kernel)⟩
set_option maxRecDepth 100000 in
theorem pk_205 : pq_mok pq_tab pm_205 := ⟨⟨pq_gt_mem 6153 rfl rfl, pq_gt_mem 1013 (by decide +kernel) rfl, by decide +kernel, ⟨by decide +kernel, by decide +kernel, by decide +kernel⟩, by decide +kernel, Or.inr (Or.inl ⟨rfl, pq_gt_mem 6152 (by decide +kernel) rfl, pq_gt_mem 49 (by decide +kernel) rfl, Or.inl (by decide +kernel)⟩)⟩, pd_rows (by decide +kernel)⟩
set_option maxRecDepth 100000 in
theorem pk_206 : pq_mok pq_tab pm_206 := ⟨⟨pq_gt_mem 7002 rfl rfl, pq_gt_mem 1013 (by decide +kernel) rfl, by decide +kernel, ⟨by decide +kernel, by decide +kernel, by decide +kernel⟩, by decide +kernel, Or.inr (Or.inl ⟨rfl, pq_gt_mem 7000 (by decide +kernel) rfl, pq_gt_mem 7001 (by decide +kernel) rfl, Or.inl (by decide +kernel)⟩)⟩, pd_rows (by decide +kernel)⟩
set_option maxRecDepth 100000 in
theorem pk_207 : pq_mok pq_tab pm_207 := ⟨⟨pq_gt_mem 7006 rfl rfl, pq_gt_mem 1013 (by decide +kernel) rfl, by decide +kernel, ⟨by decide +kernel, by decide +kernel, by decide +kernel⟩, by decide +kernel, Or.inr (Or.inl ⟨rfl, pq_gt_mem 7004 (by decide +kernel) rfl, pq_gt_mem 7005 (by decide +kernel) rfl, Or.inl (by decide +kernel)⟩)⟩, pd_rows (by decide +kernel)⟩
set_option maxRecDepth 100000 in
theorem pk_208 : pq_mok pq_tab pm_208 := ⟨⟨pq_gt_mem 7010 rfl rfl, pq_gt_mem 1013 (by decide +kernel) rfl, by decide +kernel, ⟨by decide +kernel, by decide +kernel, by decide +kernel⟩, by decide +kernel, Or.inr (Or.inl ⟨rfl, pq_gt_mem 7008 (by decide +kernel) rfl, pq_gt_mem 7009 (by decide +kernel) rfl, Or.inl (by decide +kernel)⟩)⟩, pd_rows (by decide +kernel)⟩
set_option maxRecDepth 100000 in
theorem pk_209 : pq_mok pq_tab pm_209 := ⟨⟨pq_gt_mem 7014 rfl rfl, pq_gt_mem 1013 (by decide +kernel) rfl, by decide +kernel, ⟨by decide +kernel, by decide +kernel, by decide +kernel⟩, by decide +kernel, Or.inr (Or.inl ⟨rfl, pq_gt_mem 7013 (by decide +kernel) rfl, pq_gt_mem 50 (by decide +kernel) rfl, Or.inl (by decide +kernel)⟩)⟩, pd_rows (by decide +kernel)⟩
