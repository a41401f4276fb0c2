set_option maxRecDepth 100000 in
theorem pk_0 : pq_mok pq_tab pm_0 := ⟨⟨pq_gt_mem 1025 rfl rfl, pq_gt_mem 1001 (by decide +kernel) rfl, by decide +kernel, ⟨by decide +kernel, by decide +kernel, by decide +kernel⟩, by decide +kernel, Or.inr (Or.inr ⟨rfl, pq_gt_mem 1024 (by decide +kernel) rfl, by decide +kernel, by decide +kernel⟩)⟩, pd_rows (by decide +kernel)⟩
set_option maxRecDepth 100000 in
theorem pk_1 : pq_mok pq_tab pm_1 := ⟨⟨pq_gt_mem 1033 rfl rfl, pq_gt_mem 1002 (by decide +kernel) rfl, by decide +kernel, ⟨by decide +kernel, by decide +kernel, by decide +kernel⟩, by decide +kernel, Or.inr (Or.inr ⟨rfl, pq_gt_mem 1032 (by decide +kernel) rfl, by decide +kernel, by decide +kernel⟩)⟩, pd_rows (by decide +kernel)⟩
set_option maxRecDepth 100000 in
theorem pk_2 : pq_mok pq_tab pm_2 := ⟨⟨pq_gt_mem 1037 rfl rfl, pq_gt_mem 1003 (by decide +kernel) rfl, by decide +kernel, ⟨by decide +kernel, by decide +kernel, by decide +kernel⟩, by decide +kernel, Or.inl ⟨rfl, pq_gt_mem 1036 (by decide +kernel) rfl⟩⟩, pd_rows (by decide +kernel)⟩
set_option maxRecDepth 100000 in
theorem pk_3 : pq_mok pq_tab pm_3 := ⟨⟨pq_gt_mem 1093 rfl rfl, pq_gt_mem 1004 (by decide +kernel) rfl, by decide +kernel, ⟨by decide +kernel, by decide +kernel, by decide +kernel⟩, by decide +kernel, Or.inr (Or.inr ⟨rfl, pq_gt_mem 1092 (by decide +kernel) rfl, by decide +kernel, by decide +kernel⟩)⟩, pd_rows (by decide +kernel)⟩
set_option maxRecDepth 100000 in
theorem pk_4 : pq_mok pq_tab pm_4 := ⟨⟨pq_gt_mem 1141 rfl rfl, pq_gt_mem 1005 (by decide +kernel) rfl, by decide +kernel, ⟨by decide +kernel, by decide +kernel, by decide +kernel⟩, by decide +kernel, Or.inr (Or.inr ⟨rfl, pq_gt_mem 1140 (by decide +kernel) rfl, by decide +kernel, by decide +kernel⟩)⟩, pd_rows (by decide +kernel)⟩
set_option maxRecDepth 100000 in
theorem pk_5 : pq_mok pq_tab pm_5 := ⟨⟨pq_gt_mem 1175 rfl rfl, pq_gt_mem 1006 (by decide +kernel) rfl, by decide +kernel, ⟨by decide +kernel, by decide +kernel, by decide +kernel⟩, by decide +kernel, Or.inr (Or.inr ⟨rfl, pq_gt_mem 1174 (by decide +kernel) rfl, by decide +kernel, by decide +kernel⟩)⟩, pd_rows (by decide +kernel)⟩
set_option maxRecDepth 100000 in
theorem pk_6 : pq_mok pq_tab pm_6 := ⟨⟨pq_gt_mem 1239 rfl rfl, pq_gt_mem 1007 (by decide +kernel) rfl, by decide +kernel, ⟨by decide +kernel, by decide +kernel, by decide +kernel⟩, by decide +kernel, Or.inr (Or.inr ⟨rfl, pq_gt_mem 1238 (by decide +kernel) rfl, by decide +kernel, by decide +kernel⟩)⟩, pd_rows (by decide +kernel)⟩
set_option maxRecDepth 100000 in
theorem pk_7 : pq_mok pq_tab pm_7 := ⟨⟨pq_gt_mem 2026 rfl rfl, pq_gt_mem 1008 (by decide +kernel) rfl, by decide +kernel, ⟨by decide +kernel, by decide +kernel, by decide +kernel⟩, by decide +kernel, Or.inr (Or.inr ⟨rfl, pq_gt_mem 2025 (by decide +kernel) rfl, by decide +kernel, by decide +kernel⟩)⟩, pd_rows (by decide +kernel)⟩
set_option maxRecDepth 100000 in
theorem pk_8 : pq_mok pq_tab pm_8 := ⟨⟨pq_gt_mem 2051 rfl rfl, pq_gt_mem 1009 (by decide +kernel) rfl, by decide +kernel, ⟨by decide +kernel, by decide +kernel, by decide +kernel⟩, by decide +kernel, Or.inr (Or.inr ⟨rfl, pq_gt_mem 2050 (by decide +kernel) rfl, by decide +kernel, by decide +kernel⟩)⟩, pd_rows (by decide +kernel)⟩
set_option maxRecDepth 100000 in
theorem pk_9 : pq_mok pq_tab pm_9 := ⟨⟨pq_gt_mem 2076 rfl rfl, pq_gt_mem 1010 (by decide +kernel) rfl, by decide +kernel, ⟨by decide +kernel, by decide +kernel, by decide +kernel⟩, by decide +kernel, Or.inr (Or.inr ⟨rfl, pq_gt_mem 2075 (by decide +kernel) rfl, by decide +kernel, by decide +kernel⟩)⟩, pd_rows (by decide +kernel)⟩
set_option maxRecDepth 100000 in
theorem pk_10 : pq_mok pq_tab pm_10 := ⟨⟨pq_gt_mem 2103 rfl rfl, pq_gt_mem 1011 (by decide +kernel) rfl, by decide +kernel, ⟨by decide +kernel, by decide +kernel, by decide +kernel⟩, by decide +kernel, Or.inr (Or.inr ⟨rfl, pq_gt_mem 2102 (by decide +kernel) rfl, by decide +kernel, by decide +kernel⟩)⟩, pd_rows (by decide +kernel)⟩
set_option maxRecDepth 100000 in
theorem pk_11 : pq_mok pq_tab pm_11 := ⟨⟨pq_gt_mem 2127 rfl rfl, pq_gt_mem 1012 (by decide +kernel) rfl, by decide +kernel, ⟨by decide +kernel, by decide +kernel, by decide +kernel⟩, by decide +kernel, Or.inr (Or.inr ⟨rfl, pq_gt_mem 2126 (by decide +kernel) rfl, by decide +kernel, by decide +kernel⟩)⟩, pd_rows (by decide +kernel)⟩
set_option maxRecDepth 100000 in
theorem pk_12 : pq_mok pq_tab pm_12 := ⟨⟨pq_gt_mem 2193 rfl rfl, pq_gt_mem 1001 (by decide +kernel) rfl, by decide +kernel, ⟨by decide +kernel, by decide +kernel, by decide +kernel⟩, by decide +kernel, Or.inr (Or.inl ⟨rfl, pq_gt_mem 2191 (by decide +kernel) rfl, pq_gt_mem 2192 (by decide +kernel) rfl, Or.inl (by decide +kernel)⟩)⟩, pd_rows (by decide +kernel)⟩
set_option maxRecDepth 100000 in
theorem pk_13 : pq_mok pq_tab pm_13 := ⟨⟨pq_gt_mem 2196 rfl rfl, pq_gt_mem 1001 (by decide +kernel) rfl, by decide +kernel, ⟨by decide +kernel, by decide +kernel, by decide +kernel⟩, by decide +kernel, Or.inl ⟨rfl, pq_gt_mem 2195 (by decide +kernel) rfl⟩⟩, pd_rows (by decide +kernel)⟩
set_option maxRecDepth 100000 in
theorem pk_14 : pq_mok pq_tab pm_14 := ⟨⟨pq_gt_mem 2199 rfl rfl, pq_gt_mem 1001 (by decide +kernel) rfl, by decide +kernel, ⟨by decide +kernel, by decide +kernel, by decide +kernel⟩, by decide +kernel, Or.inl ⟨rfl, pq_gt_mem 2198 (by decide +kernel) rfl⟩⟩, pd_rows (by decide +kernel)⟩
set_option maxRecDepth 100000 in
theorem pk_15 : pq_mok pq_tab pm_15 := ⟨⟨pq_gt_mem 2203 rfl rfl, pq_gt_mem 1001 (by decide +kernel) rfl, by decide +kernel, ⟨by decide +kernel, by decide +kernel, by decide +kernel⟩, by decide +kernel, Or.inr (Or.inl ⟨rfl, pq_gt_mem 2202 (by decide +kernel) rfl, pq_gt_mem 0 (by decide +kernel) rfl, Or.inl (by decide +kernel)⟩)⟩, pd_rows (by decide +kernel)⟩
set_option maxRecDepth 100000 in
theorem pk_16 : pq_mok pq_tab pm_16 := ⟨⟨pq_gt_mem 2206 rfl rfl, pq_gt_mem 1001 (by decide +kernel) rfl, by decide +kernel, ⟨by decide +kernel, by decide +kernel, by decide +kernel⟩, by decide +kernel, Or.inl ⟨rfl, pq_gt_mem 2205 (by decide +kernel) rfl⟩⟩, pd_rows (by decide +kernel)⟩
set_option maxRecDepth 100000 in
theorem pk_17 : pq_mok pq_tab pm_17 := ⟨⟨pq_gt_mem 2211 rfl rfl, pq_gt_mem 1001 (by decide +kernel) rfl, by decide +kernel, ⟨by decide +kernel, by decide +kernel, by decide +kernel⟩, by decide +kernel, Or.inr (Or.inl ⟨rfl, pq_gt_mem 2209 (by decide +kernel) rfl, pq_gt_mem 2210 (by decide +kernel) rfl, Or.inl (by decide +kernel)⟩)⟩, pd_rows (by decide +kernel)⟩
set_option maxRecDepth 100000 in
theorem pk_18 : pq_mok pq_tab pm_18 := ⟨⟨pq_gt_mem 2214 rfl rfl, pq_gt_mem 1001 (by decide +kernel) rfl, by decide +kernel, ⟨by decide +kernel, by decide +kernel, by decide +kernel⟩, by decide +kernel, Or.inl ⟨rfl, pq_gt_mem 2213 (by decide +kernel) rfl⟩⟩, pd_rows (by decide +kernel)⟩
set_option maxRecDepth 100000 in
theorem pk_19 : pq_mok pq_tab pm_19 := ⟨⟨pq_gt_mem 2218 rfl rfl, pq_gt_mem 1012 (by decide +kernel) rfl, by decide +kernel, ⟨by decide +kernel, by decide +kernel, by decide +kernel⟩, by decide +kernel, Or.inr (Or.inl ⟨rfl, pq_gt_mem 2216 (by decide +kernel) rfl, pq_gt_mem 2217 (by decide +kernel) rfl, Or.inl (by decide +kernel)⟩)⟩, pd_rows (by decide +kernel)⟩
set_option maxRecDepth 100000 in
theorem pk_20 : pq_mok pq_tab pm_20 := ⟨⟨pq_gt_mem 2223 rfl rfl, pq_gt_mem 1012 (by decide +kernel) rfl, by decide +kernel, ⟨by decide +kernel, by decide +kernel, by decide +kernel⟩, by decide +kernel, Or.inr (Or.inl ⟨rfl, pq_gt_mem 2221 (by decide +kernel) rfl, pq_gt_mem 2222 (by decide +kernel) rfl, Or.inl (by decide +kernel)⟩)⟩, pd_rows (by decide +kernel)⟩
set_option maxRecDepth 100000 in
theorem pk_21 : pq_mok pq_tab pm_21 := ⟨⟨pq_gt_mem 2227 rfl rfl, pq_gt_mem 1012 (by decide +kernel) rfl, by decide +kernel, ⟨by decide +kernel, by decide +kernel, by decide +kernel⟩, by decide +kernel, Or.inr (Or.inl ⟨rfl, pq_gt_mem 2225 (by decide +kernel) rfl, pq_gt_mem 2226 (by decide +kernel) rfl, Or.inl (by decide +kernel)⟩)⟩, pd_rows (by decide +kernel)⟩
set_option maxRecDepth 100000 in
theorem pk_22 : pq_mok pq_tab pm_22 := ⟨⟨pq_gt_mem 2232 rfl rfl, pq_gt_mem 1001 (by decide +kernel) rfl, by decide +kernel, ⟨by decide +kernel, by decide +kernel, by decide +kernel⟩, by decide +kernel, Or.inr (Or.inl ⟨rfl, pq_gt_mem 2230 (by decide +kernel) rfl, pq_gt_mem 2231 (by decide +kernel) rfl, Or.inl (by decide +kernel)⟩)⟩, pd_rows (by decide +kernel)⟩
set_option maxRecDepth 100000 in
theorem pk_23 : pq_mok pq_tab pm_23 := ⟨⟨pq_gt_mem 2236 rfl rfl, pq_gt_mem 1001 (by decide +kernel) rfl, by decide +kernel, ⟨by decide +kernel, by decide +kernel, by decide +kernel⟩, by decide +kernel, Or.inr (Or.inl ⟨rfl, pq_gt_mem 2234 (by decide +kernel) rfl, pq_gt_mem 2235 (by decide +kernel) rfl, Or.inl (by decide +kernel)⟩)⟩, pd_rows (by decide +kernel)⟩
set_option maxRecDepth 100000 in
theorem pk_24 : pq_mok pq_tab pm_24 := ⟨⟨pq_gt_mem 2239 rfl rfl, pq_gt_mem 1001 (by decide +kernel) rfl, by decide +kernel, ⟨by decide +kernel, by decide +kernel, by decide +kernel⟩, by decide +kernel, Or.inl ⟨rfl, pq_gt_mem 2238 (by decide +kernel) rfl⟩⟩, pd_rows (by decide +kernel)⟩
set_option maxRecDepth 100000 in
theorem pk_25 : pq_mok pq_tab pm_25 := ⟨⟨pq_gt_mem 3003 rfl rfl, pq_gt_mem 1001 (by decide +kernel) rfl, by decide +kernel, ⟨by decide +kernel, by decide +kernel, by decide +kernel⟩, by decide +kernel, Or.inr (Or.inl ⟨rfl, pq_gt_mem 3001 (by decide +kernel) rfl, pq_gt_mem 3002 (by decide +kernel) rfl, Or.inl (by decide +kernel)⟩)⟩, pd_rows (by decide +kernel)⟩
set_option maxRecDepth 100000 in
theorem pk_26 : pq_mok pq_tab pm_26 := ⟨⟨pq_gt_mem 3007 rfl rfl, pq_gt_mem 1002 (by decide +kernel) rfl, by decide +kernel, ⟨by decide +kernel, by decide +kernel, by decide +kernel⟩, by decide +kernel, Or.inr (Or.inl ⟨rfl, pq_gt_mem 3005 (by decide +kernel) rfl, pq_gt_mem 3006 (by decide +kernel) rfl, Or.inl (by decide +kernel)⟩)⟩, pd_rows (by decide +kernel)⟩
set_option maxRecDepth 100000 in
theorem pk_27 : pq_mok pq_tab pm_27 := ⟨⟨pq_gt_mem 3011 rfl rfl, pq_gt_mem 1004 (by decide +kernel) rfl, by decide +kernel, ⟨by decide +kernel, by decide +kernel, by decide +kernel⟩, by decide +kernel, Or.inr (Or.inl ⟨rfl, pq_gt_mem 3009 (by decide +kernel) rfl, pq_gt_mem 3010 (by decide +kernel) rfl, Or.inl (by decide +kernel)⟩)⟩, pd_rows (by decide +kernel)⟩
set_option maxRecDepth 100000 in
theorem pk_28 : pq_mok pq_tab pm_28 := ⟨⟨pq_gt_mem 3016 rfl rfl, pq_gt_mem 1001 (by decide +kernel) rfl, by decide +kernel, ⟨by decide +kernel, by decide +kernel, by decide +kernel⟩, by decide +kernel, Or.inr (Or.inl ⟨rfl, pq_gt_mem 3014 (by decide +kernel) rfl, pq_gt_mem 3015 (by decide +kernel) rfl, Or.inl (by decide +kernel)⟩)⟩, pd_rows (by decide +kernel)⟩
set_option maxRecDepth 100000 in
theorem pk_29 : pq_mok pq_tab pm_29 := ⟨⟨pq_gt_mem 3020 rfl rfl, pq_gt_mem 1001 (by decide +kernel) rfl, by decide +kernel, ⟨by decide +kernel, by decide +kernel, by decide +kernel⟩, by decide +kernel, Or.inr (Or.inl ⟨rfl, pq_gt_mem 3018 (by decide +kernel) rfl, pq_gt_mem 3019 (by decide +kernel) rfl, Or.inl (by decide +kernel)⟩)⟩, pd_rows (by decide +kernel)⟩
