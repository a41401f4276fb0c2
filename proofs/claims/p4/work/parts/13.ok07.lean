set_option maxRecDepth 100000 in
theorem pk_210 : pq_mok pq_tab pm_210 := ⟨⟨pq_gt_mem 7018 rfl rfl, pq_gt_mem 1013 (by decide +kernel) rfl, by decide +kernel, ⟨by decide +kernel, by decide +kernel, by decide +kernel⟩, by decide +kernel, Or.inr (Or.inl ⟨rfl, pq_gt_mem 7017 (by decide +kernel) rfl, pq_gt_mem 51 (by decide +kernel) rfl, Or.inl (by decide +kernel)⟩)⟩, pd_rows (by decide +kernel)⟩
set_option maxRecDepth 100000 in
theorem pk_211 : pq_mok pq_tab pm_211 := ⟨⟨pq_gt_mem 7022 rfl rfl, pq_gt_mem 1013 (by decide +kernel) rfl, by decide +kernel, ⟨by decide +kernel, by decide +kernel, by decide +kernel⟩, by decide +kernel, Or.inl ⟨rfl, pq_gt_mem 7021 (by decide +kernel) rfl⟩⟩, pd_rows (by decide +kernel)⟩
set_option maxRecDepth 100000 in
theorem pk_212 : pq_mok pq_tab pm_212 := ⟨⟨pq_gt_mem 7029 rfl rfl, pq_gt_mem 1013 (by decide +kernel) rfl, by decide +kernel, ⟨by decide +kernel, by decide +kernel, by decide +kernel⟩, by decide +kernel, Or.inr (Or.inl ⟨rfl, pq_gt_mem 7027 (by decide +kernel) rfl, pq_gt_mem 7028 (by decide +kernel) rfl, Or.inl (by decide +kernel)⟩)⟩, pd_rows (by decide +kernel)⟩
set_option maxRecDepth 100000 in
theorem pk_213 : pq_mok pq_tab pm_213 := ⟨⟨pq_gt_mem 7033 rfl rfl, pq_gt_mem 1013 (by decide +kernel) rfl, by decide +kernel, ⟨by decide +kernel, by decide +kernel, by decide +kernel⟩, by decide +kernel, Or.inr (Or.inl ⟨rfl, pq_gt_mem 7031 (by decide +kernel) rfl, pq_gt_mem 7032 (by decide +kernel) rfl, Or.inl (by decide +kernel)⟩)⟩, pd_rows (by decide +kernel)⟩
set_option maxRecDepth 100000 in
theorem pk_214 : pq_mok pq_tab pm_214 := ⟨⟨pq_gt_mem 7037 rfl rfl, pq_gt_mem 1013 (by decide +kernel) rfl, by decide +kernel, ⟨by decide +kernel, by decide +kernel, by decide +kernel⟩, by decide +kernel, Or.inr (Or.inl ⟨rfl, pq_gt_mem 7036 (by decide +kernel) rfl, pq_gt_mem 52 (by decide +kernel) rfl, Or.inl (by decide +kernel)⟩)⟩, pd_rows (by decide +kernel)⟩
set_option maxRecDepth 100000 in
theorem pk_215 : pq_mok pq_tab pm_215 := ⟨⟨pq_gt_mem 7041 rfl rfl, pq_gt_mem 1013 (by decide +kernel) rfl, by decide +kernel, ⟨by decide +kernel, by decide +kernel, by decide +kernel⟩, by decide +kernel, Or.inr (Or.inl ⟨rfl, pq_gt_mem 7040 (by decide +kernel) rfl, pq_gt_mem 53 (by decide +kernel) rfl, Or.inl (by decide +kernel)⟩)⟩, pd_rows (by decide +kernel)⟩
set_option maxRecDepth 100000 in
theorem pk_216 : pq_mok pq_tab pm_216 := ⟨⟨pq_gt_mem 7045 rfl rfl, pq_gt_mem 1013 (by decide +kernel) rfl, by decide +kernel, ⟨by decide +kernel, by decide +kernel, by decide +kernel⟩, by decide +kernel, Or.inr (Or.inl ⟨rfl, pq_gt_mem 7043 (by decide +kernel) rfl, pq_gt_mem 7044 (by decide +kernel) rfl, Or.inl (by decide +kernel)⟩)⟩, pd_rows (by decide +kernel)⟩
set_option maxRecDepth 100000 in
theorem pk_217 : pq_mok pq_tab pm_217 := ⟨⟨pq_gt_mem 7049 rfl rfl, pq_gt_mem 1013 (by decide +kernel) rfl, by decide +kernel, ⟨by decide +kernel, by decide +kernel, by decide +kernel⟩, by decide +kernel, Or.inr (Or.inl ⟨rfl, pq_gt_mem 7048 (by decide +kernel) rfl, pq_gt_mem 54 (by decide +kernel) rfl, Or.inl (by decide +kernel)⟩)⟩, pd_rows (by decide +kernel)⟩
set_option maxRecDepth 100000 in
theorem pk_218 : pq_mok pq_tab pm_218 := ⟨⟨pq_gt_mem 7053 rfl rfl, pq_gt_mem 1013 (by decide +kernel) rfl, by decide +kernel, ⟨by decide +kernel, by decide +kernel, by decide +kernel⟩, by decide +kernel, Or.inr (Or.inl ⟨rfl, pq_gt_mem 7052 (by decide +kernel) rfl, pq_gt_mem 55 (by decide +kernel) rfl, Or.inl (by decide +kernel)⟩)⟩, pd_rows (by decide +kernel)⟩
set_option maxRecDepth 100000 in
theorem pk_219 : pq_mok pq_tab pm_219 := ⟨⟨pq_gt_mem 7057 rfl rfl, pq_gt_mem 1013 (by decide +kernel) rfl, by decide +kernel, ⟨by decide +kernel, by decide +kernel, by decide +kernel⟩, by decide +kernel, Or.inr (Or.inl ⟨rfl, pq_gt_mem 7055 (by decide +kernel) rfl, pq_gt_mem 7056 (by decide +kernel) rfl, Or.inl (by decide +kernel)⟩)⟩, pd_rows (by decide +kernel)⟩
set_option maxRecDepth 100000 in
theorem pk_220 : pq_mok pq_tab pm_220 := ⟨⟨pq_gt_mem 7062 rfl rfl, pq_gt_mem 1013 (by decide +kernel) rfl, by decide +kernel, ⟨by decide +kernel, by decide +kernel, by decide +kernel⟩, by decide +kernel, Or.inr (Or.inl ⟨rfl, pq_gt_mem 7061 (by decide +kernel) rfl, pq_gt_mem 56 (by decide +kernel) rfl, Or.inl (by decide +kernel)⟩)⟩, pd_rows (by decide +kernel)⟩
set_option maxRecDepth 100000 in
theorem pk_221 : pq_mok pq_tab pm_221 := ⟨⟨pq_gt_mem 7066 rfl rfl, pq_gt_mem 1013 (by decide +kernel) rfl, by decide +kernel, ⟨by decide +kernel, by decide +kernel, by decide +kernel⟩, by decide +kernel, Or.inr (Or.inl ⟨rfl, pq_gt_mem 7064 (by decide +kernel) rfl, pq_gt_mem 7065 (by decide +kernel) rfl, Or.inl (by decide +kernel)⟩)⟩, pd_rows (by decide +kernel)⟩
set_option maxRecDepth 100000 in
theorem pk_222 : pq_mok pq_tab pm_222 := ⟨⟨pq_gt_mem 7070 rfl rfl, pq_gt_mem 1013 (by decide +kernel) rfl, by decide +kernel, ⟨by decide +kernel, by decide +kernel, by decide +kernel⟩, by decide +kernel, Or.inr (Or.inl ⟨rfl, pq_gt_mem 7069 (by decide +kernel) rfl, pq_gt_mem 57 (by decide +kernel) rfl, Or.inl (by decide +kernel)⟩)⟩, pd_rows (by decide +kernel)⟩
set_option maxRecDepth 100000 in
theorem pk_223 : pq_mok pq_tab pm_223 := ⟨⟨pq_gt_mem 7074 rfl rfl, pq_gt_mem 1013 (by decide +kernel) rfl, by decide +kernel, ⟨by decide +kernel, by decide +kernel, by decide +kernel⟩, by decide +kernel, Or.inr (Or.inl ⟨rfl, pq_gt_mem 7073 (by decide +kernel) rfl, pq_gt_mem 58 (by decide +kernel) rfl, Or.inl (by decide +kernel)⟩)⟩, pd_rows (by decide +kernel)⟩
set_option maxRecDepth 100000 in
theorem pk_224 : pq_mok pq_tab pm_224 := ⟨⟨pq_gt_mem 7079 rfl rfl, pq_gt_mem 1013 (by decide +kernel) rfl, by decide +kernel, ⟨by decide +kernel, by decide +kernel, by decide +kernel⟩, by decide +kernel, Or.inr (Or.inl ⟨rfl, pq_gt_mem 7078 (by decide +kernel) rfl, pq_gt_mem 59 (by decide +kernel) rfl, Or.inl (by decide +kernel)⟩)⟩, pd_rows (by decide +kernel)⟩
set_option maxRecDepth 100000 in
theorem pk_225 : pq_mok pq_tab pm_225 := ⟨⟨pq_gt_mem 7083 rfl rfl, pq_gt_mem 1013 (by decide +kernel) rfl, by decide +kernel, ⟨by decide +kernel, by decide +kernel, by decide +kernel⟩, by decide +kernel, Or.inr (Or.inl ⟨rfl, pq_gt_mem 7081 (by decide +kernel) rfl, pq_gt_mem 7082 (by decide +kernel) rfl, Or.inl (by decide +kernel)⟩)⟩, pd_rows (by decide +kernel)⟩
set_option maxRecDepth 100000 in
theorem pk_226 : pq_mok pq_tab pm_226 := ⟨⟨pq_gt_mem 7087 rfl rfl, pq_gt_mem 1013 (by decide +kernel) rfl, by decide +kernel, ⟨by decide +kernel, by decide +kernel, by decide +kernel⟩, by decide +kernel, Or.inr (Or.inl ⟨rfl, pq_gt_mem 7085 (by decide +kernel) rfl, pq_gt_mem 7086 (by decide +kernel) rfl, Or.inl (by decide +kernel)⟩)⟩, pd_rows (by decide +kernel)⟩
set_option maxRecDepth 100000 in
theorem pk_227 : pq_mok pq_tab pm_227 := ⟨⟨pq_gt_mem 7091 rfl rfl, pq_gt_mem 1013 (by decide +kernel) rfl, by decide +kernel, ⟨by decide +kernel, by decide +kernel, by decide +kernel⟩, by decide +kernel, Or.inr (Or.inl ⟨rfl, pq_gt_mem 7089 (by decide +kernel) rfl, pq_gt_mem 7090 (by decide +kernel) rfl, Or.inl (by decide +kernel)⟩)⟩, pd_rows (by decide +kernel)⟩
set_option maxRecDepth 100000 in
theorem pk_228 : pq_mok pq_tab pm_228 := ⟨⟨pq_gt_mem 7095 rfl rfl, pq_gt_mem 1013 (by decide +kernel) rfl, by decide +kernel, ⟨by decide +kernel, by decide +kernel, by decide +kernel⟩, by decide +kernel, Or.inr (Or.inl ⟨rfl, pq_gt_mem 7093 (by decide +kernel) rfl, pq_gt_mem 7094 (by decide +kernel) rfl, Or.inl (by decide +kernel)⟩)⟩, pd_rows (by decide +kernel)⟩
set_option maxRecDepth 100000 in
theorem pk_229 : pq_mok pq_tab pm_229 := ⟨⟨pq_gt_mem 7100 rfl rfl, pq_gt_mem 1013 (by decide +kernel) rfl, by decide +kernel, ⟨by decide +kernel, by decide +kernel, by decide +kernel⟩, by decide +kernel, Or.inr (Or.inl ⟨rfl, pq_gt_mem 7099 (by decide +kernel) rfl, pq_gt_mem 60 (by decide +kernel) rfl, Or.inl (by decide +kernel)⟩)⟩, pd_rows (by decide +kernel)⟩
set_option maxRecDepth 100000 in
theorem pk_230 : pq_mok pq_tab pm_230 := ⟨⟨pq_gt_mem 7105 rfl rfl, pq_gt_mem 1013 (by decide +kernel) rfl, by decide +kernel, ⟨by decide +kernel, by decide +kernel, by decide +kernel⟩, by decide +kernel, Or.inr (Or.inl ⟨rfl, pq_gt_mem 7103 (by decide +kernel) rfl, pq_gt_mem 7104 (by decide +kernel) rfl, Or.inl (by decide +kernel)⟩)⟩, pd_rows (by decide +kernel)⟩
set_option maxRecDepth 100000 in
theorem pk_231 : pq_mok pq_tab pm_231 := ⟨⟨pq_gt_mem 7110 rfl rfl, pq_gt_mem 1013 (by decide +kernel) rfl, by decide +kernel, ⟨by decide +kernel, by decide +kernel, by decide +kernel⟩, by decide +kernel, Or.inr (Or.inl ⟨rfl, pq_gt_mem 7108 (by decide +kernel) rfl, pq_gt_mem 7109 (by decide +kernel) rfl, Or.inl (by decide +kernel)⟩)⟩, pd_rows (by decide +kernel)⟩
set_option maxRecDepth 100000 in
theorem pk_232 : pq_mok pq_tab pm_232 := ⟨⟨pq_gt_mem 7114 rfl rfl, pq_gt_mem 1013 (by decide +kernel) rfl, by decide +kernel, ⟨by decide +kernel, by decide +kernel, by decide +kernel⟩, by decide +kernel, Or.inr (Or.inl ⟨rfl, pq_gt_mem 7113 (by decide +kernel) rfl, pq_gt_mem 61 (by decide +kernel) rfl, Or.inl (by decide +kernel)⟩)⟩, pd_rows (by decide +kernel)⟩
set_option maxRecDepth 100000 in
theorem pk_233 : pq_mok pq_tab pm_233 := ⟨⟨pq_gt_mem 7119 rfl rfl, pq_gt_mem 1013 (by decide +kernel) rfl, by decide +kernel, ⟨by decide +kernel, by decide +kernel, by decide +kernel⟩, by decide +kernel, Or.inr (Or.inl ⟨rfl, pq_gt_mem 7117 (by decide +kernel) rfl, pq_gt_mem 7118 (by decide +kernel) rfl, Or.inl (by decide +kernel)⟩)⟩, pd_rows (by decide +kernel)⟩
set_option maxRecDepth 100000 in
theorem pk_234 : pq_mok pq_tab pm_234 := ⟨⟨pq_gt_mem 7123 rfl rfl, pq_gt_mem 1013 (by decide +kernel) rfl, by decide +kernel, ⟨by decide +kernel, by decide +kernel, by decide +kernel⟩, by decide +kernel, Or.inr (Or.inl ⟨rfl, pq_gt_mem 7121 (by decide +kernel) rfl, pq_gt_mem 7122 (by decide +kernel) rfl, Or.inl (by decide +kernel)⟩)⟩, pd_rows (by decide +kernel)⟩
set_option maxRecDepth 100000 in
theorem pk_235 : pq_mok pq_tab pm_235 := ⟨⟨pq_gt_mem 7127 rfl rfl, pq_gt_mem 1013 (by decide +kernel) rfl, by decide +kernel, ⟨by decide +kernel, by decide +kernel, by decide +kernel⟩, by decide +kernel, Or.inr (Or.inl ⟨rfl, pq_gt_mem 7126 (by decide +kernel) rfl, pq_gt_mem 62 (by decide +kernel) rfl, Or.inl (by decide +kernel)⟩)⟩, pd_rows (by decide +kernel)⟩
set_option maxRecDepth 100000 in
theorem pk_236 : pq_mok pq_tab pm_236 := ⟨⟨pq_gt_mem 7131 rfl rfl, pq_gt_mem 1013 (by decide +kernel) rfl, by decide +kernel, ⟨by decide +kernel, by decide +kernel, by decide +kernel⟩, by decide +kernel, Or.inr (Or.inl ⟨rfl, pq_gt_mem 7130 (by decide +kernel) rfl, pq_gt_mem 63 (by decide +kernel) rfl, Or.inl (by decide +kernel)⟩)⟩, pd_rows (by decide +kernel)⟩
set_option maxRecDepth 100000 in
theorem pk_237 : pq_mok pq_tab pm_237 := ⟨⟨pq_gt_mem 7134 rfl rfl, pq_gt_mem 1013 (by decide +kernel) rfl, by decide +kernel, ⟨by decide +kernel, by decide +kernel, by decide +kernel⟩, by decide +kernel, Or.inl ⟨rfl, pq_gt_mem 7133 (by decide +kernel) rfl⟩⟩, pd_rows (by decide +kernel)⟩
set_option maxRecDepth 100000 in
theorem pk_238 : pq_mok pq_tab pm_238 := ⟨⟨pq_gt_mem 7138 rfl rfl, pq_gt_mem 1013 (by decide +kernel) rfl, by decide +kernel, ⟨by decide +kernel, by decide +kernel, by decide +kernel⟩, by decide +kernel, Or.inr (Or.inl ⟨rfl, pq_gt_mem 7137 (by decide +kernel) rfl, pq_gt_mem 64 (by decide +kernel) rfl, Or.inl (by decide +kernel)⟩)⟩, pd_rows (by decide +kernel)⟩
set_option maxRecDepth 100000 in
theorem pk_239 : pq_mok pq_tab pm_239 := ⟨⟨pq_gt_mem 7142 rfl rfl, pq_gt_mem 1013 (by decide +kernel) rfl, by decide +kernel, ⟨by decide +kernel, by decide +kernel, by decide +kernel⟩, by decide +kernel, Or.inr (Or.inl ⟨rfl, pq_gt_mem 7141 (by decide +kernel) rfl, pq_gt_mem 65 (by decide +kernel) rfl, Or.inl (by decide +kernel)⟩)⟩, pd_rows (by decide +kernel)⟩
