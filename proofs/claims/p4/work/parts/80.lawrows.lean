theorem zz_0 : pl_0.2.all (pq_eof pq_tab pm_law) = true := by decide +kernel
theorem zz_1 : pl_1.2.all (pq_eof pq_tab pm_law) = true := by decide +kernel
theorem zz_2 : pl_2.2.all (pq_eof pq_tab pm_law) = true := by decide +kernel
theorem zz_3 : pl_3.2.all (pq_eof pq_tab pm_law) = true := by decide +kernel
theorem zz_4 : pl_4.2.all (pq_eof pq_tab pm_law) = true := by decide +kernel
theorem zz_5 : pl_5.2.all (pq_eof pq_tab pm_law) = true := by decide +kernel
theorem zz_6 : pl_6.2.all (pq_eof pq_tab pm_law) = true := by decide +kernel
theorem zz_7 : pl_7.2.all (pq_eof pq_tab pm_law) = true := by decide +kernel
theorem zz_8 : pl_8.2.all (pq_eof pq_tab pm_law) = true := by decide +kernel
theorem zz_9 : pl_9.2.all (pq_eof pq_tab pm_law) = true := by decide +kernel
theorem zz_10 : pl_10.2.all (pq_eof pq_tab pm_law) = true := by decide +kernel
theorem zz_11 : pl_11.2.all (pq_eof pq_tab pm_law) = true := by decide +kernel
theorem zz_12 : pl_12.2.all (pq_eof pq_tab pm_law) = true := by decide +kernel
theorem zz_13 : pl_13.2.all (pq_eof pq_tab pm_law) = true := by decide +kernel
theorem zz_14 : pl_14.2.all (pq_eof pq_tab pm_law) = true := by decide +kernel
theorem zz_15 : pl_15.2.all (pq_eof pq_tab pm_law) = true := by decide +kernel
theorem zz_16 : pl_16.2.all (pq_eof pq_tab pm_law) = true := by decide +kernel
theorem zz_17 : pl_17.2.all (pq_eof pq_tab pm_law) = true := by decide +kernel
theorem zz_18 : pl_18.2.all (pq_eof pq_tab pm_law) = true := by decide +kernel
theorem zz_19 : pl_19.2.all (pq_eof pq_tab pm_law) = true := by decide +kernel
theorem zz_20 : pl_20.2.all (pq_eof pq_tab pm_law) = true := by decide +kernel
theorem zz_21 : pl_21.2.all (pq_eof pq_tab pm_law) = true := by decide +kernel
theorem zz_22 : pl_22.2.all (pq_eof pq_tab pm_law) = true := by decide +kernel
theorem zz_23 : pl_23.2.all (pq_eof pq_tab pm_law) = true := by decide +kernel
theorem zz_24 : pl_24.2.all (pq_eof pq_tab pm_law) = true := by decide +kernel
theorem zz_25 : pl_25.2.all (pq_eof pq_tab pm_law) = true := by decide +kernel
theorem zz_26 : pl_26.2.all (pq_eof pq_tab pm_law) = true := by decide +kernel
theorem zz_27 : pl_27.2.all (pq_eof pq_tab pm_law) = true := by decide +kernel
theorem zz_28 : pl_28.2.all (pq_eof pq_tab pm_law) = true := by decide +kernel
theorem zz_29 : pl_29.2.all (pq_eof pq_tab pm_law) = true := by decide +kernel
theorem zz_30 : pl_30.2.all (pq_eof pq_tab pm_law) = true := by decide +kernel
theorem zz_31 : pl_31.2.all (pq_eof pq_tab pm_law) = true := by decide +kernel
theorem zz_32 : pl_32.2.all (pq_eof pq_tab pm_law) = true := by decide +kernel
theorem zz_33 : pl_33.2.all (pq_eof pq_tab pm_law) = true := by decide +kernel
theorem zz_34 : pl_34.2.all (pq_eof pq_tab pm_law) = true := by decide +kernel
theorem zz_35 : pl_35.2.all (pq_eof pq_tab pm_law) = true := by decide +kernel
theorem zz_36 : pl_36.2.all (pq_eof pq_tab pm_law) = true := by decide +kernel
theorem zz_37 : pl_37.2.all (pq_eof pq_tab pm_law) = true := by decide +kernel
theorem zz_38 : pl_38.2.all (pq_eof pq_tab pm_law) = true := by decide +kernel
theorem zz_39 : pl_39.2.all (pq_eof pq_tab pm_law) = true := by decide +kernel
theorem zz_40 : pl_40.2.all (pq_eof pq_tab pm_law) = true := by decide +kernel
theorem zz_41 : pl_41.2.all (pq_eof pq_tab pm_law) = true := by decide +kernel
theorem zz_42 : pl_42.2.all (pq_eof pq_tab pm_law) = true := by decide +kernel
theorem zz_43 : pl_43.2.all (pq_eof pq_tab pm_law) = true := by decide +kernel
theorem zz_44 : pl_44.2.all (pq_eof pq_tab pm_law) = true := by decide +kernel
theorem zz_45 : pl_45.2.all (pq_eof pq_tab pm_law) = true := by decide +kernel
theorem zz_46 : pl_46.2.all (pq_eof pq_tab pm_law) = true := by decide +kernel
theorem zz_47 : pl_47.2.all (pq_eof pq_tab pm_law) = true := by decide +kernel
theorem zz_48 : pl_48.2.all (pq_eof pq_tab pm_law) = true := by decide +kernel
theorem zz_49 : pl_49.2.all (pq_eof pq_tab pm_law) = true := by decide +kernel
theorem zz_50 : pl_50.2.all (pq_eof pq_tab pm_law) = true := by decide +kernel
theorem zz_51 : pl_51.2.all (pq_eof pq_tab pm_law) = true := by decide +kernel
theorem zz_52 : pl_52.2.all (pq_eof pq_tab pm_law) = true := by decide +kernel
theorem zz_53 : pl_53.2.all (pq_eof pq_tab pm_law) = true := by decide +kernel
theorem zz_54 : pl_54.2.all (pq_eof pq_tab pm_law) = true := by decide +kernel
theorem zz_55 : pl_55.2.all (pq_eof pq_tab pm_law) = true := by decide +kernel
theorem zz_56 : pl_56.2.all (pq_eof pq_tab pm_law) = true := by decide +kernel
theorem zz_57 : pl_57.2.all (pq_eof pq_tab pm_law) = true := by decide +kernel
theorem zz_58 : pl_58.2.all (pq_eof pq_tab pm_law) = true := by decide +kernel
theorem zz_59 : pl_59.2.all (pq_eof pq_tab pm_law) = true := by decide +kernel
theorem zz_60 : pl_60.2.all (pq_eof pq_tab pm_law) = true := by decide +kernel
theorem zz_61 : pl_61.2.all (pq_eof pq_tab pm_law) = true := by decide +kernel
theorem zz_62 : pl_62.2.all (pq_eof pq_tab pm_law) = true := by decide +kernel
theorem zz_63 : pl_63.2.all (pq_eof pq_tab pm_law) = true := by decide +kernel
theorem zz_64 : pl_64.2.all (pq_eof pq_tab pm_law) = true := by decide +kernel
theorem zz_65 : pl_65.2.all (pq_eof pq_tab pm_law) = true := by decide +kernel
theorem zz_66 : pl_66.2.all (pq_eof pq_tab pm_law) = true := by decide +kernel
theorem zz_67 : pl_67.2.all (pq_eof pq_tab pm_law) = true := by decide +kernel
theorem zz_68 : pl_68.2.all (pq_eof pq_tab pm_law) = true := by decide +kernel
theorem zz_69 : pl_69.2.all (pq_eof pq_tab pm_law) = true := by decide +kernel
theorem zz_70 : pl_70.2.all (pq_eof pq_tab pm_law) = true := by decide +kernel
theorem zz_71 : pl_71.2.all (pq_eof pq_tab pm_law) = true := by decide +kernel
theorem zz_72 : pl_72.2.all (pq_eof pq_tab pm_law) = true := by decide +kernel
theorem zz_73 : pl_73.2.all (pq_eof pq_tab pm_law) = true := by decide +kernel
theorem zz_74 : pl_74.2.all (pq_eof pq_tab pm_law) = true := by decide +kernel
theorem zz_75 : pl_75.2.all (pq_eof pq_tab pm_law) = true := by decide +kernel
theorem law_eof : (pq_cd pm_law).all (fun b => b.2.all (pq_eof pq_tab pm_law)) = true := by
  show ([pl_0, pl_1, pl_2, pl_3, pl_4, pl_5, pl_6, pl_7, pl_8, pl_9, pl_10, pl_11, pl_12, pl_13, pl_14, pl_15, pl_16, pl_17, pl_18, pl_19, pl_20, pl_21, pl_22, pl_23, pl_24, pl_25, pl_26, pl_27, pl_28, pl_29, pl_30, pl_31, pl_32, pl_33, pl_34, pl_35, pl_36, pl_37, pl_38, pl_39, pl_40, pl_41, pl_42, pl_43, pl_44, pl_45, pl_46, pl_47, pl_48, pl_49, pl_50, pl_51, pl_52, pl_53, pl_54, pl_55, pl_56, pl_57, pl_58, pl_59, pl_60, pl_61, pl_62, pl_63, pl_64, pl_65, pl_66, pl_67, pl_68, pl_69, pl_70, pl_71, pl_72, pl_73, pl_74, pl_75] : pq_B).all (fun b => b.2.all (pq_eof pq_tab pm_law)) = true
  simp only [List.all_cons, List.all_nil, zz_0, zz_1, zz_2, zz_3, zz_4, zz_5, zz_6, zz_7, zz_8, zz_9, zz_10, zz_11, zz_12, zz_13, zz_14, zz_15, zz_16, zz_17, zz_18, zz_19, zz_20, zz_21, zz_22, zz_23, zz_24, zz_25, zz_26, zz_27, zz_28, zz_29, zz_30, zz_31, zz_32, zz_33, zz_34, zz_35, zz_36, zz_37, zz_38, zz_39, zz_40, zz_41, zz_42, zz_43, zz_44, zz_45, zz_46, zz_47, zz_48, zz_49, zz_50, zz_51, zz_52, zz_53, zz_54, zz_55, zz_56, zz_57, zz_58, zz_59, zz_60, zz_61, zz_62, zz_63, zz_64, zz_65, zz_66, zz_67, zz_68, zz_69, zz_70, zz_71, zz_72, zz_73, zz_74, zz_75, Bool.and_true]
theorem law_gos : pd_gos (pq_cd pm_law) 0 ((pq_by pm_law).data.toList.map UInt8.toNat) = true := by decide +kernel
theorem law_rows : (pq_cd pm_law).all (fun b => b.2.all (pq_eok pq_tab pm_law)) = true := pd_rows (by
  unfold pd_chk
  rw [law_gos, law_eof]
  rfl)
