set_option maxRecDepth 100000 in
theorem pk_240 : pq_mok pq_tab pm_240 := ⟨⟨pq_gt_mem 7146 rfl rfl, pq_gt_mem 1013 (by decide +kernel) rfl, by decide +kernel, ⟨by decide +kernel, by decide +kernel, by decide +kernel⟩, by decide +kernel, Or.inr (Or.inl ⟨rfl, pq_gt_mem 7144 (by decide +kernel) rfl, pq_gt_mem 7145 (by decide +kernel) rfl, Or.inl (by decide +kernel)⟩)⟩, pd_rows (by decide +kernel)⟩
set_option maxRecDepth 100000 in
theorem pk_241 : pq_mok pq_tab pm_241 := ⟨⟨pq_gt_mem 7150 rfl rfl, pq_gt_mem 1013 (by decide +kernel) rfl, by decide +kernel, ⟨by decide +kernel, by decide +kernel, by decide +kernel⟩, by decide +kernel, Or.inr (Or.inl ⟨rfl, pq_gt_mem 7148 (by decide +kernel) rfl, pq_gt_mem 7149 (by decide +kernel) rfl, Or.inl (by decide +kernel)⟩)⟩, pd_rows (by decide +kernel)⟩
set_option maxRecDepth 100000 in
theorem pk_242 : pq_mok pq_tab pm_242 := ⟨⟨pq_gt_mem 7153 rfl rfl, pq_gt_mem 1013 (by decide +kernel) rfl, by decide +kernel, ⟨by decide +kernel, by decide +kernel, by decide +kernel⟩, by decide +kernel, Or.inl ⟨rfl, pq_gt_mem 7152 (by decide +kernel) rfl⟩⟩, pd_rows (by decide +kernel)⟩
set_option maxRecDepth 100000 in
theorem pk_243 : pq_mok pq_tab pm_243 := ⟨⟨pq_gt_mem 7157 rfl rfl, pq_gt_mem 1013 (by decide +kernel) rfl, by decide +kernel, ⟨by decide +kernel, by decide +kernel, by decide +kernel⟩, by decide +kernel, Or.inr (Or.inl ⟨rfl, pq_gt_mem 7155 (by decide +kernel) rfl, pq_gt_mem 7156 (by decide +kernel) rfl, Or.inl (by decide +kernel)⟩)⟩, pd_rows (by decide +kernel)⟩
set_option maxRecDepth 100000 in
theorem pk_244 : pq_mok pq_tab pm_244 := ⟨⟨pq_gt_mem 7161 rfl rfl, pq_gt_mem 1013 (by decide +kernel) rfl, by decide +kernel, ⟨by decide +kernel, by decide +kernel, by decide +kernel⟩, by decide +kernel, Or.inr (Or.inl ⟨rfl, pq_gt_mem 7159 (by decide +kernel) rfl, pq_gt_mem 7160 (by decide +kernel) rfl, Or.inl (by decide +kernel)⟩)⟩, pd_rows (by decide +kernel)⟩
set_option maxRecDepth 100000 in
theorem pk_245 : pq_mok pq_tab pm_245 := ⟨⟨pq_gt_mem 7165 rfl rfl, pq_gt_mem 1013 (by decide +kernel) rfl, by decide +kernel, ⟨by decide +kernel, by decide +kernel, by decide +kernel⟩, by decide +kernel, Or.inr (Or.inl ⟨rfl, pq_gt_mem 7163 (by decide +kernel) rfl, pq_gt_mem 7164 (by decide +kernel) rfl, Or.inl (by decide +kernel)⟩)⟩, pd_rows (by decide +kernel)⟩
set_option maxRecDepth 100000 in
theorem pk_246 : pq_mok pq_tab pm_246 := ⟨⟨pq_gt_mem 7169 rfl rfl, pq_gt_mem 1013 (by decide +kernel) rfl, by decide +kernel, ⟨by decide +kernel, by decide +kernel, by decide +kernel⟩, by decide +kernel, Or.inr (Or.inl ⟨rfl, pq_gt_mem 7167 (by decide +kernel) rfl, pq_gt_mem 7168 (by decide +kernel) rfl, Or.inl (by decide +kernel)⟩)⟩, pd_rows (by decide +kernel)⟩
set_option maxRecDepth 100000 in
theorem pk_247 : pq_mok pq_tab pm_247 := ⟨⟨pq_gt_mem 7173 rfl rfl, pq_gt_mem 1013 (by decide +kernel) rfl, by decide +kernel, ⟨by decide +kernel, by decide +kernel, by decide +kernel⟩, by decide +kernel, Or.inr (Or.inl ⟨rfl, pq_gt_mem 7171 (by decide +kernel) rfl, pq_gt_mem 7172 (by decide +kernel) rfl, Or.inl (by decide +kernel)⟩)⟩, pd_rows (by decide +kernel)⟩
set_option maxRecDepth 100000 in
theorem pk_248 : pq_mok pq_tab pm_248 := ⟨⟨pq_gt_mem 7177 rfl rfl, pq_gt_mem 1013 (by decide +kernel) rfl, by decide +kernel, ⟨by decide +kernel, by decide +kernel, by decide +kernel⟩, by decide +kernel, Or.inr (Or.inl ⟨rfl, pq_gt_mem 7175 (by decide +kernel) rfl, pq_gt_mem 7176 (by decide +kernel) rfl, Or.inl (by decide +kernel)⟩)⟩, pd_rows (by decide +kernel)⟩
set_option maxRecDepth 100000 in
theorem pk_249 : pq_mok pq_tab pm_249 := ⟨⟨pq_gt_mem 6160 rfl rfl, pq_gt_mem 1016 (by decide +kernel) rfl, by decide +kernel, ⟨by decide +kernel, by decide +kernel, by decide +kernel⟩, by decide +kernel, Or.inr (Or.inl ⟨rfl, pq_gt_mem 6158 (by decide +kernel) rfl, pq_gt_mem 6159 (by decide +kernel) rfl, Or.inr ⟨by decide +kernel, by decide +kernel⟩⟩)⟩, pd_rows (by decide +kernel)⟩
set_option maxRecDepth 100000 in
theorem pk_250 : pq_mok pq_tab pm_250 := ⟨⟨pq_gt_mem 6164 rfl rfl, pq_gt_mem 1016 (by decide +kernel) rfl, by decide +kernel, ⟨by decide +kernel, by decide +kernel, by decide +kernel⟩, by decide +kernel, Or.inr (Or.inl ⟨rfl, pq_gt_mem 6162 (by decide +kernel) rfl, pq_gt_mem 6163 (by decide +kernel) rfl, Or.inr ⟨by decide +kernel, by decide +kernel⟩⟩)⟩, pd_rows (by decide +kernel)⟩
set_option maxRecDepth 100000 in
theorem pk_251 : pq_mok pq_tab pm_251 := ⟨⟨pq_gt_mem 6168 rfl rfl, pq_gt_mem 1016 (by decide +kernel) rfl, by decide +kernel, ⟨by decide +kernel, by decide +kernel, by decide +kernel⟩, by decide +kernel, Or.inr (Or.inl ⟨rfl, pq_gt_mem 6166 (by decide +kernel) rfl, pq_gt_mem 6167 (by decide +kernel) rfl, Or.inr ⟨by decide +kernel, by decide +kernel⟩⟩)⟩, pd_rows (by decide +kernel)⟩
set_option maxRecDepth 100000 in
theorem pk_252 : pq_mok pq_tab pm_252 := ⟨⟨pq_gt_mem 6174 rfl rfl, pq_gt_mem 1016 (by decide +kernel) rfl, by decide +kernel, ⟨by decide +kernel, by decide +kernel, by decide +kernel⟩, by decide +kernel, Or.inr (Or.inl ⟨rfl, pq_gt_mem 6172 (by decide +kernel) rfl, pq_gt_mem 6173 (by decide +kernel) rfl, Or.inr ⟨by decide +kernel, by decide +kernel⟩⟩)⟩, pd_rows (by decide +kernel)⟩
set_option maxRecDepth 100000 in
theorem pk_253 : pq_mok pq_tab pm_253 := ⟨⟨pq_gt_mem 6178 rfl rfl, pq_gt_mem 1016 (by decide +kernel) rfl, by decide +kernel, ⟨by decide +kernel, by decide +kernel, by decide +kernel⟩, by decide +kernel, Or.inr (Or.inl ⟨rfl, pq_gt_mem 6176 (by decide +kernel) rfl, pq_gt_mem 6177 (by decide +kernel) rfl, Or.inr ⟨by decide +kernel, by decide +kernel⟩⟩)⟩, pd_rows (by decide +kernel)⟩
set_option maxRecDepth 100000 in
theorem pk_254 : pq_mok pq_tab pm_254 := ⟨⟨pq_gt_mem 6181 rfl rfl, pq_gt_mem 1017 (by decide +kernel) rfl, by decide +kernel, ⟨by decide +kernel, by decide +kernel, by decide +kernel⟩, by decide +kernel, Or.inl ⟨rfl, pq_gt_mem 6180 (by decide +kernel) rfl⟩⟩, pd_rows (by decide +kernel)⟩
set_option maxRecDepth 100000 in
theorem pk_255 : pq_mok pq_tab pm_255 := ⟨⟨pq_gt_mem 6184 rfl rfl, pq_gt_mem 1017 (by decide +kernel) rfl, by decide +kernel, ⟨by decide +kernel, by decide +kernel, by decide +kernel⟩, by decide +kernel, Or.inl ⟨rfl, pq_gt_mem 6183 (by decide +kernel) rfl⟩⟩, pd_rows (by decide +kernel)⟩
set_option maxRecDepth 100000 in
theorem pk_256 : pq_mok pq_tab pm_256 := ⟨⟨pq_gt_mem 6189 rfl rfl, pq_gt_mem 1017 (by decide +kernel) rfl, by decide +kernel, ⟨by decide +kernel, by decide +kernel, by decide +kernel⟩, by decide +kernel, Or.inl ⟨rfl, pq_gt_mem 6188 (by decide +kernel) rfl⟩⟩, pd_rows (by decide +kernel)⟩
