set_option maxRecDepth 100000 in
theorem pk_240 : pq_mok pq_tab pm_240 := ⟨⟨pq_gt_mem 7146 rfl rfl, pq_gt_mem 1013 (by decide +kernel) rfl, by decide +kernel, ⟨by decide +kernel, by decide +kernel, by decide +kernel⟩, by decide +kernel, Or.inr (Or.inl ⟨rfl, pq_gt_mem 7144 (by decide +kernel) rfl, pq_gt_mem 7145 (by decide +kernel) rfl, by decide +kernel⟩)⟩, by decide +kernel⟩
set_option maxRecDepth 100000 in
theorem pk_241 : pq_mok pq_tab pm_241 := ⟨⟨pq_gt_mem 7150 rfl rfl, pq_gt_mem 1013 (by decide +kernel) rfl, by decide +kernel, ⟨by decide +kernel, by decide +kernel, by decide +kernel⟩, by decide +kernel, Or.inr (Or.inl ⟨rfl, pq_gt_mem 7148 (by decide +kernel) rfl, pq_gt_mem 7149 (by decide +kernel) rfl, by decide +kernel⟩)⟩, by decide +kernel⟩
set_option maxRecDepth 100000 in
theorem pk_242 : pq_mok pq_tab pm_242 := ⟨⟨pq_gt_mem 7153 rfl rfl, pq_gt_mem 1013 (by decide +kernel) rfl, by decide +kernel, ⟨by decide +kernel, by decide +kernel, by decide +kernel⟩, by decide +kernel, Or.inl ⟨rfl, pq_gt_mem 7152 (by decide +kernel) rfl⟩⟩, by decide +kernel⟩
set_option maxRecDepth 100000 in
theorem pk_243 : pq_mok pq_tab pm_243 := ⟨⟨pq_gt_mem 7157 rfl rfl, pq_gt_mem 1013 (by decide +kernel) rfl, by decide +kernel, ⟨by decide +kernel, by decide +kernel, by decide +kernel⟩, by decide +kernel, Or.inr (Or.inl ⟨rfl, pq_gt_mem 7155 (by decide +kernel) rfl, pq_gt_mem 7156 (by decide +kernel) rfl, by decide +kernel⟩)⟩, by decide +kernel⟩
set_option maxRecDepth 100000 in
theorem pk_244 : pq_mok pq_tab pm_244 := ⟨⟨pq_gt_mem 7161 rfl rfl, pq_gt_mem 1013 (by decide +kernel) rfl, by decide +kernel, ⟨by decide +kernel, by decide +kernel, by decide +kernel⟩, by decide +kernel, Or.inr (Or.inl ⟨rfl, pq_gt_mem 7159 (by decide +kernel) rfl, pq_gt_mem 7160 (by decide +kernel) rfl, by decide +kernel⟩)⟩, by decide +kernel⟩
set_option maxRecDepth 100000 in
theorem pk_245 : pq_mok pq_tab pm_245 := ⟨⟨pq_gt_mem 7165 rfl rfl, pq_gt_mem 1013 (by decide +kernel) rfl, by decide +kernel, ⟨by decide +kernel, by decide +kernel, by decide +kernel⟩, by decide +kernel, Or.inr (Or.inl ⟨rfl, pq_gt_mem 7163 (by decide +kernel) rfl, pq_gt_mem 7164 (by decide +kernel) rfl, by decide +kernel⟩)⟩, by decide +kernel⟩
set_option maxRecDepth 100000 in
theorem pk_246 : pq_mok pq_tab pm_246 := ⟨⟨pq_gt_mem 7169 rfl rfl, pq_gt_mem 1013 (by decide +kernel) rfl, by decide +kernel, ⟨by decide +kernel, by decide +kernel, by decide +kernel⟩, by decide +kernel, Or.inr (Or.inl ⟨rfl, pq_gt_mem 7167 (by decide +kernel) rfl, pq_gt_mem 7168 (by decide +kernel) rfl, by decide +kernel⟩)⟩, by decide +kernel⟩
set_option maxRecDepth 100000 in
theorem pk_247 : pq_mok pq_tab pm_247 := ⟨⟨pq_gt_mem 7173 rfl rfl, pq_gt_mem 1013 (by decide +kernel) rfl, by decide +kernel, ⟨by decide +kernel, by decide +kernel, by decide +kernel⟩, by decide +kernel, Or.inr (Or.inl ⟨rfl, pq_gt_mem 7171 (by decide +kernel) rfl, pq_gt_mem 7172 (by decide +kernel) rfl, by decide +kernel⟩)⟩, by decide +kernel⟩
set_option maxRecDepth 100000 in
theorem pk_248 : pq_mok pq_tab pm_248 := ⟨⟨pq_gt_mem 7177 rfl rfl, pq_gt_mem 1013 (by decide +kernel) rfl, by decide +kernel, ⟨by decide +kernel, by decide +kernel, by decide +kernel⟩, by decide +kernel, Or.inr (Or.inl ⟨rfl, pq_gt_mem 7175 (by decide +kernel) rfl, pq_gt_mem 7176 (by decide +kernel) rfl, by decide +kernel⟩)⟩, by decide +kernel⟩
