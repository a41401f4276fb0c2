set_option maxRecDepth 100000 in
theorem pk_150 : pq_mok pq_tab pm_150 := ⟨⟨pq_gt_mem 5080 rfl rfl, pq_gt_mem 1005 (by decide +kernel) rfl, by decide +kernel, ⟨by decide +kernel, by decide +kernel, by decide +kernel⟩, by decide +kernel, Or.inr (Or.inl ⟨rfl, pq_gt_mem 5078 (by decide +kernel) rfl, pq_gt_mem 5079 (by decide +kernel) rfl, Or.inl (by decide +kernel)⟩)⟩, pd_rows (by decide +kernel)⟩
set_option maxRecDepth 100000 in
theorem pk_151 : pq_mok pq_tab pm_151 := ⟨⟨pq_gt_mem 5084 rfl rfl, pq_gt_mem 1006 (by decide +kernel) rfl, by decide +kernel, ⟨by decide +kernel, by decide +kernel, by decide +kernel⟩, by decide +kernel, Or.inr (Or.inl ⟨rfl, pq_gt_mem 5082 (by decide +kernel) rfl, pq_gt_mem 5083 (by decide +kernel) rfl, Or.inl (by decide +kernel)⟩)⟩, pd_rows (by decide +kernel)⟩
set_option maxRecDepth 100000 in
theorem pk_152 : pq_mok pq_tab pm_152 := ⟨⟨pq_gt_mem 5089 rfl rfl, pq_gt_mem 1001 (by decide +kernel) rfl, by decide +kernel, ⟨by decide +kernel, by decide +kernel, by decide +kernel⟩, by decide +kernel, Or.inr (Or.inl ⟨rfl, pq_gt_mem 5087 (by decide +kernel) rfl, pq_gt_mem 5088 (by decide +kernel) rfl, Or.inl (by decide +kernel)⟩)⟩, pd_rows (by decide +kernel)⟩
set_option maxRecDepth 100000 in
theorem pk_153 : pq_mok pq_tab pm_153 := ⟨⟨pq_gt_mem 5093 rfl rfl, pq_gt_mem 1001 (by decide +kernel) rfl, by decide +kernel, ⟨by decide +kernel, by decide +kernel, by decide +kernel⟩, by decide +kernel, Or.inr (Or.inl ⟨rfl, pq_gt_mem 5091 (by decide +kernel) rfl, pq_gt_mem 5092 (by decide +kernel) rfl, Or.inl (by decide +kernel)⟩)⟩, pd_rows (by decide +kernel)⟩
set_option maxRecDepth 100000 in
theorem pk_154 : pq_mok pq_tab pm_154 := ⟨⟨pq_gt_mem 5097 rfl rfl, pq_gt_mem 1004 (by decide +kernel) rfl, by decide +kernel, ⟨by decide +kernel, by decide +kernel, by decide +kernel⟩, by decide +kernel, Or.inr (Or.inl ⟨rfl, pq_gt_mem 5095 (by decide +kernel) rfl, pq_gt_mem 5096 (by decide +kernel) rfl, Or.inl (by decide +kernel)⟩)⟩, pd_rows (by decide +kernel)⟩
set_option maxRecDepth 100000 in
theorem pk_155 : pq_mok pq_tab pm_155 := ⟨⟨pq_gt_mem 5101 rfl rfl, pq_gt_mem 1006 (by decide +kernel) rfl, by decide +kernel, ⟨by decide +kernel, by decide +kernel, by decide +kernel⟩, by decide +kernel, Or.inr (Or.inl ⟨rfl, pq_gt_mem 5099 (by decide +kernel) rfl, pq_gt_mem 5100 (by decide +kernel) rfl, Or.inl (by decide +kernel)⟩)⟩, pd_rows (by decide +kernel)⟩
set_option maxRecDepth 100000 in
theorem pk_156 : pq_mok pq_tab pm_156 := ⟨⟨pq_gt_mem 5104 rfl rfl, pq_gt_mem 1001 (by decide +kernel) rfl, by decide +kernel, ⟨by decide +kernel, by decide +kernel, by decide +kernel⟩, by decide +kernel, Or.inl ⟨rfl, pq_gt_mem 5103 (by decide +kernel) rfl⟩⟩, pd_rows (by decide +kernel)⟩
set_option maxRecDepth 100000 in
theorem pk_157 : pq_mok pq_tab pm_157 := ⟨⟨pq_gt_mem 5108 rfl rfl, pq_gt_mem 1001 (by decide +kernel) rfl, by decide +kernel, ⟨by decide +kernel, by decide +kernel, by decide +kernel⟩, by decide +kernel, Or.inr (Or.inl ⟨rfl, pq_gt_mem 5106 (by decide +kernel) rfl, pq_gt_mem 5107 (by decide +kernel) rfl, Or.inl (by decide +kernel)⟩)⟩, pd_rows (by decide +kernel)⟩
set_option maxRecDepth 100000 in
theorem pk_158 : pq_mok pq_tab pm_158 := ⟨⟨pq_gt_mem 5113 rfl rfl, pq_gt_mem 1013 (by decide +kernel) rfl, by decide +kernel, ⟨by decide +kernel, by decide +kernel, by decide +kernel⟩, by decide +kernel, Or.inr (Or.inr ⟨rfl, pq_gt_mem 5112 (by decide +kernel) rfl, by decide +kernel, by decide +kernel⟩)⟩, pd_rows (by decide +kernel)⟩
set_option maxRecDepth 100000 in
theorem pk_159 : pq_mok pq_tab pm_159 := ⟨⟨pq_gt_mem 5197 rfl rfl, pq_gt_mem 1013 (by decide +kernel) rfl, by decide +kernel, ⟨by decide +kernel, by decide +kernel, by decide +kernel⟩, by decide +kernel, Or.inr (Or.inl ⟨rfl, pq_gt_mem 5195 (by decide +kernel) rfl, pq_gt_mem 5196 (by decide +kernel) rfl, Or.inl (by decide +kernel)⟩)⟩, pd_rows (by decide +kernel)⟩
set_option maxRecDepth 100000 in
theorem pk_160 : pq_mok pq_tab pm_160 := ⟨⟨pq_gt_mem 5200 rfl rfl, pq_gt_mem 1013 (by decide +kernel) rfl, by decide +kernel, ⟨by decide +kernel, by decide +kernel, by decide +kernel⟩, by decide +kernel, Or.inl ⟨rfl, pq_gt_mem 5199 (by decide +kernel) rfl⟩⟩, pd_rows (by decide +kernel)⟩
set_option maxRecDepth 100000 in
theorem pk_161 : pq_mok pq_tab pm_161 := ⟨⟨pq_gt_mem 5204 rfl rfl, pq_gt_mem 1013 (by decide +kernel) rfl, by decide +kernel, ⟨by decide +kernel, by decide +kernel, by decide +kernel⟩, by decide +kernel, Or.inl ⟨rfl, pq_gt_mem 5203 (by decide +kernel) rfl⟩⟩, pd_rows (by decide +kernel)⟩
set_option maxRecDepth 100000 in
theorem pk_162 : pq_mok pq_tab pm_162 := ⟨⟨pq_gt_mem 5211 rfl rfl, pq_gt_mem 1013 (by decide +kernel) rfl, by decide +kernel, ⟨by decide +kernel, by decide +kernel, by decide +kernel⟩, by decide +kernel, Or.inr (Or.inl ⟨rfl, pq_gt_mem 5210 (by decide +kernel) rfl, pq_gt_mem 29 (by decide +kernel) rfl, Or.inl (by decide +kernel)⟩)⟩, pd_rows (by decide +kernel)⟩
set_option maxRecDepth 100000 in
theorem pk_163 : pq_mok pq_tab pm_163 := ⟨⟨pq_gt_mem 5216 rfl rfl, pq_gt_mem 1013 (by decide +kernel) rfl, by decide +kernel, ⟨by decide +kernel, by decide +kernel, by decide +kernel⟩, by decide +kernel, Or.inr (Or.inl ⟨rfl, pq_gt_mem 5214 (by decide +kernel) rfl, pq_gt_mem 5215 (by decide +kernel) rfl, Or.inl (by decide +kernel)⟩)⟩, pd_rows (by decide +kernel)⟩
set_option maxRecDepth 100000 in
theorem pk_164 : pq_mok pq_tab pm_164 := ⟨⟨pq_gt_mem 5219 rfl rfl, pq_gt_mem 1013 (by decide +kernel) rfl, by decide +kernel, ⟨by decide +kernel, by decide +kernel, by decide +kernel⟩, by decide +kernel, Or.inl ⟨rfl, pq_gt_mem 5218 (by decide +kernel) rfl⟩⟩, pd_rows (by decide +kernel)⟩
set_option maxRecDepth 100000 in
theorem pk_165 : pq_mok pq_tab pm_165 := ⟨⟨pq_gt_mem 5227 rfl rfl, pq_gt_mem 1013 (by decide +kernel) rfl, by decide +kernel, ⟨by decide +kernel, by decide +kernel, by decide +kernel⟩, by decide +kernel, Or.inr (Or.inl ⟨rfl, pq_gt_mem 5225 (by decide +kernel) rfl, pq_gt_mem 5226 (by decide +kernel) rfl, Or.inl (by decide +kernel)⟩)⟩, pd_rows (by decide +kernel)⟩
set_option maxRecDepth 100000 in
theorem pk_166 : pq_mok pq_tab pm_166 := ⟨⟨pq_gt_mem 5231 rfl rfl, pq_gt_mem 1013 (by decide +kernel) rfl, by decide +kernel, ⟨by decide +kernel, by decide +kernel, by decide +kernel⟩, by decide +kernel, Or.inr (Or.inl ⟨rfl, pq_gt_mem 5229 (by decide +kernel) rfl, pq_gt_mem 5230 (by decide +kernel) rfl, Or.inl (by decide +kernel)⟩)⟩, pd_rows (by decide +kernel)⟩
set_option maxRecDepth 100000 in
theorem pk_167 : pq_mok pq_tab pm_167 := ⟨⟨pq_gt_mem 5234 rfl rfl, pq_gt_mem 1013 (by decide +kernel) rfl, by decide +kernel, ⟨by decide +kernel, by decide +kernel, by decide +kernel⟩, by decide +kernel, Or.inl ⟨rfl, pq_gt_mem 5233 (by decide +kernel) rfl⟩⟩, pd_rows (by decide +kernel)⟩
set_option maxRecDepth 100000 in
theorem pk_168 : pq_mok pq_tab pm_168 := ⟨⟨pq_gt_mem 5238 rfl rfl, pq_gt_mem 1013 (by decide +kernel) rfl, by decide +kernel, ⟨by decide +kernel, by decide +kernel, by decide +kernel⟩, by decide +kernel, Or.inl ⟨rfl, pq_gt_mem 5237 (by decide +kernel) rfl⟩⟩, pd_rows (by decide +kernel)⟩
set_option maxRecDepth 100000 in
theorem pk_169 : pq_mok pq_tab pm_169 := ⟨⟨pq_gt_mem 6002 rfl rfl, pq_gt_mem 1013 (by decide +kernel) rfl, by decide +kernel, ⟨by decide +kernel, by decide +kernel, by decide +kernel⟩, by decide +kernel, Or.inr (Or.inl ⟨rfl, pq_gt_mem 6000 (by decide +kernel) rfl, pq_gt_mem 6001 (by decide +kernel) rfl, Or.inl (by decide +kernel)⟩)⟩, pd_rows (by decide +kernel)⟩
set_option maxRecDepth 100000 in
theorem pk_170 : pq_mok pq_tab pm_170 := ⟨⟨pq_gt_mem 6006 rfl rfl, pq_gt_mem 1013 (by decide +kernel) rfl, by decide +kernel, ⟨by decide +kernel, by decide +kernel, by decide +kernel⟩, by decide +kernel, Or.inr (Or.inl ⟨rfl, pq_gt_mem 6005 (by decide +kernel) rfl, pq_gt_mem 30 (by decide +kernel) rfl, Or.inl (by decide +kernel)⟩)⟩, pd_rows (by decide +kernel)⟩
set_option maxRecDepth 100000 in
theorem pk_171 : pq_mok pq_tab pm_171 := ⟨⟨pq_gt_mem 6009 rfl rfl, pq_gt_mem 1013 (by decide +kernel) rfl, by decide +kernel, ⟨by decide +kernel, by decide +kernel, by decide +kernel⟩, by decide +kernel, Or.inl ⟨rfl, pq_gt_mem 6008 (by decide +kernel) rfl⟩⟩, pd_rows (by decide +kernel)⟩
set_option maxRecDepth 100000 in
theorem pk_172 : pq_mok pq_tab pm_172 := ⟨⟨pq_gt_mem 6013 rfl rfl, pq_gt_mem 1013 (by decide +kernel) rfl, by decide +kernel, ⟨by decide +kernel, by decide +kernel, by decide +kernel⟩, by decide +kernel, Or.inr (Or.inl ⟨rfl, pq_gt_mem 6011 (by decide +kernel) rfl, pq_gt_mem 6012 (by decide +kernel) rfl, Or.inl (by decide +kernel)⟩)⟩, pd_rows (by decide +kernel)⟩
set_option maxRecDepth 100000 in
theorem pk_173 : pq_mok pq_tab pm_173 := ⟨⟨pq_gt_mem 6017 rfl rfl, pq_gt_mem 1013 (by decide +kernel) rfl, by decide +kernel, ⟨by decide +kernel, by decide +kernel, by decide +kernel⟩, by decide +kernel, Or.inr (Or.inl ⟨rfl, pq_gt_mem 6015 (by decide +kernel) rfl, pq_gt_mem 6016 (by decide +kernel) rfl, Or.inl (by decide +kernel)⟩)⟩, pd_rows (by decide +kernel)⟩
set_option maxRecDepth 100000 in
theorem pk_174 : pq_mok pq_tab pm_174 := ⟨⟨pq_gt_mem 6023 rfl rfl, pq_gt_mem 1013 (by decide +kernel) rfl, by decide +kernel, ⟨by decide +kernel, by decide +kernel, by decide +kernel⟩, by decide +kernel, Or.inr (Or.inl ⟨rfl, pq_gt_mem 6021 (by decide +kernel) rfl, pq_gt_mem 6022 (by decide +kernel) rfl, Or.inl (by decide +kernel)⟩)⟩, pd_rows (by decide +kernel)⟩
set_option maxRecDepth 100000 in
theorem pk_175 : pq_mok pq_tab pm_175 := ⟨⟨pq_gt_mem 6028 rfl rfl, pq_gt_mem 1013 (by decide +kernel) rfl, by decide +kernel, ⟨by decide +kernel, by decide +kernel, by decide +kernel⟩, by decide +kernel, Or.inr (Or.inl ⟨rfl, pq_gt_mem 6027 (by decide +kernel) rfl, pq_gt_mem 31 (by decide +kernel) rfl, Or.inl (by decide +kernel)⟩)⟩, pd_rows (by decide +kernel)⟩
set_option maxRecDepth 100000 in
theorem pk_176 : pq_mok pq_tab pm_176 := ⟨⟨pq_gt_mem 6033 rfl rfl, pq_gt_mem 1013 (by decide +kernel) rfl, by decide +kernel, ⟨by decide +kernel, by decide +kernel, by decide +kernel⟩, by decide +kernel, Or.inr (Or.inl ⟨rfl, pq_gt_mem 6031 (by decide +kernel) rfl, pq_gt_mem 6032 (by decide +kernel) rfl, Or.inl (by decide +kernel)⟩)⟩, pd_rows (by decide +kernel)⟩
set_option maxRecDepth 100000 in
theorem pk_177 : pq_mok pq_tab pm_177 := ⟨⟨pq_gt_mem 6037 rfl rfl, pq_gt_mem 1013 (by decide +kernel) rfl, by decide +kernel, ⟨by decide +kernel, by decide +kernel, by decide +kernel⟩, by decide +kernel, Or.inr (Or.inl ⟨rfl, pq_gt_mem 6036 (by decide +kernel) rfl, pq_gt_mem 32 (by decide +kernel) rfl, Or.inl (by decide +kernel)⟩)⟩, pd_rows (by decide +kernel)⟩
set_option maxRecDepth 100000 in
theorem pk_178 : pq_mok pq_tab pm_178 := ⟨⟨pq_gt_mem 6040 rfl rfl, pq_gt_mem 1013 (by decide +kernel) rfl, by decide +kernel, ⟨by decide +kernel, by decide +kernel, by decide +kernel⟩, by decide +kernel, Or.inl ⟨rfl, pq_gt_mem 6039 (by decide +kernel) rfl⟩⟩, pd_rows (by decide +kernel)⟩
set_option maxRecDepth 100000 in
theorem pk_179 : pq_mok pq_tab pm_179 := ⟨⟨pq_gt_mem 6044 rfl rfl, pq_gt_mem 1013 (by decide +kernel) rfl, by decide +kernel, ⟨by decide +kernel, by decide +kernel, by decide +kernel⟩, by decide +kernel, Or.inr (Or.inl ⟨rfl, pq_gt_mem 6042 (by decide +kernel) rfl, pq_gt_mem 6043 (by decide +kernel) rfl, Or.inl (by decide +kernel)⟩)⟩, pd_rows (by decide +kernel)⟩
