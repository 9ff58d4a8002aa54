set_option maxRecDepth 100000 in
theorem gc_0 : (in_0.all (zci zFn zPl_0 0 mt_0 false)) = true := by decide +kernel
set_option maxRecDepth 100000 in
theorem gd_0 : zGd 0 (0, 1, false, in_0) mt_0 ∧ plainName mt_0.1.cls = true := ⟨zGd_of (tb := zFn) (pl := zPl_0) rfl pk_0 (List.all_eq_true.mp dk_0) (List.all_eq_true.mp gc_0) (by decide +kernel) (by decide +kernel) (by decide +kernel) zacl, by decide +kernel⟩
set_option maxRecDepth 100000 in
theorem gc_1 : (in_1.all (zci zFn zPl_0 0 mt_1 false)) = true := by decide +kernel
set_option maxRecDepth 100000 in
theorem gd_1 : zGd 0 (0, 11, false, in_1) mt_1 ∧ plainName mt_1.1.cls = true := ⟨zGd_of (tb := zFn) (pl := zPl_0) rfl pk_0 (List.all_eq_true.mp dk_1) (List.all_eq_true.mp gc_1) (by decide +kernel) (by decide +kernel) (by decide +kernel) zacl, by decide +kernel⟩
set_option maxRecDepth 100000 in
theorem gc_2 : (in_2.all (zci zFn zPl_0 0 mt_2 true)) = true := by decide +kernel
set_option maxRecDepth 100000 in
theorem gd_2 : zGd 0 (0, 6, true, in_2) mt_2 ∧ plainName mt_2.1.cls = true := ⟨zGd_of (tb := zFn) (pl := zPl_0) rfl pk_0 (List.all_eq_true.mp dk_2) (List.all_eq_true.mp gc_2) (by decide +kernel) (by decide +kernel) (by decide +kernel) zacl, by decide +kernel⟩
set_option maxRecDepth 100000 in
theorem gc_3 : (in_3.all (zci zFn zPl_0 0 mt_3 false)) = true := by decide +kernel
set_option maxRecDepth 100000 in
theorem gd_3 : zGd 0 (0, 6, false, in_3) mt_3 ∧ plainName mt_3.1.cls = true := ⟨zGd_of (tb := zFn) (pl := zPl_0) rfl pk_0 (List.all_eq_true.mp dk_3) (List.all_eq_true.mp gc_3) (by decide +kernel) (by decide +kernel) (by decide +kernel) zacl, by decide +kernel⟩
set_option maxRecDepth 100000 in
theorem gc_4 : (in_4.all (zci zFn zPl_0 0 mt_4 false)) = true := by decide +kernel
set_option maxRecDepth 100000 in
theorem gd_4 : zGd 0 (0, 5, false, in_4) mt_4 ∧ plainName mt_4.1.cls = true := ⟨zGd_of (tb := zFn) (pl := zPl_0) rfl pk_0 (List.all_eq_true.mp dk_4) (List.all_eq_true.mp gc_4) (by decide +kernel) (by decide +kernel) (by decide +kernel) zacl, by decide +kernel⟩
set_option maxRecDepth 100000 in
theorem gc_5 : (in_5.all (zci zFn zPl_0 0 mt_5 false)) = true := by decide +kernel
set_option maxRecDepth 100000 in
theorem gd_5 : zGd 0 (0, 4, false, in_5) mt_5 ∧ plainName mt_5.1.cls = true := ⟨zGd_of (tb := zFn) (pl := zPl_0) rfl pk_0 (List.all_eq_true.mp dk_5) (List.all_eq_true.mp gc_5) (by decide +kernel) (by decide +kernel) (by decide +kernel) zacl, by decide +kernel⟩
set_option maxRecDepth 100000 in
theorem gc_6 : (in_6.all (zci zFn zPl_0 0 mt_6 false)) = true := by decide +kernel
set_option maxRecDepth 100000 in
theorem gd_6 : zGd 0 (0, 4, false, in_6) mt_6 ∧ plainName mt_6.1.cls = true := ⟨zGd_of (tb := zFn) (pl := zPl_0) rfl pk_0 (List.all_eq_true.mp dk_6) (List.all_eq_true.mp gc_6) (by decide +kernel) (by decide +kernel) (by decide +kernel) zacl, by decide +kernel⟩
set_option maxRecDepth 100000 in
theorem gc_7 : (in_7.all (zci zFn zPl_0 0 mt_7 false)) = true := by decide +kernel
set_option maxRecDepth 100000 in
theorem gd_7 : zGd 0 (0, 3, false, in_7) mt_7 ∧ plainName mt_7.1.cls = true := ⟨zGd_of (tb := zFn) (pl := zPl_0) rfl pk_0 (List.all_eq_true.mp dk_7) (List.all_eq_true.mp gc_7) (by decide +kernel) (by decide +kernel) (by decide +kernel) zacl, by decide +kernel⟩
set_option maxRecDepth 100000 in
theorem gc_8 : (in_8.all (zci zFn zPl_0 0 mt_8 false)) = true := by decide +kernel
set_option maxRecDepth 100000 in
theorem gd_8 : zGd 0 (0, 1, false, in_8) mt_8 ∧ plainName mt_8.1.cls = true := ⟨zGd_of (tb := zFn) (pl := zPl_0) rfl pk_0 (List.all_eq_true.mp dk_8) (List.all_eq_true.mp gc_8) (by decide +kernel) (by decide +kernel) (by decide +kernel) zacl, by decide +kernel⟩
set_option maxRecDepth 100000 in
theorem gc_9 : (in_9.all (zci zFn zPl_0 0 mt_9 false)) = true := by decide +kernel
set_option maxRecDepth 100000 in
theorem gd_9 : zGd 0 (0, 1, false, in_9) mt_9 ∧ plainName mt_9.1.cls = true := ⟨zGd_of (tb := zFn) (pl := zPl_0) rfl pk_0 (List.all_eq_true.mp dk_9) (List.all_eq_true.mp gc_9) (by decide +kernel) (by decide +kernel) (by decide +kernel) zacl, by decide +kernel⟩
set_option maxRecDepth 100000 in
theorem gc_10 : (in_10.all (zci zFn zPl_0 0 mt_10 false)) = true := by decide +kernel
set_option maxRecDepth 100000 in
theorem gd_10 : zGd 0 (0, 1, false, in_10) mt_10 ∧ plainName mt_10.1.cls = true := ⟨zGd_of (tb := zFn) (pl := zPl_0) rfl pk_0 (List.all_eq_true.mp dk_10) (List.all_eq_true.mp gc_10) (by decide +kernel) (by decide +kernel) (by decide +kernel) zacl, by decide +kernel⟩
set_option maxRecDepth 100000 in
theorem gc_11 : (in_11.all (zci zFn zPl_1 1 mt_11 false)) = true := by decide +kernel
set_option maxRecDepth 100000 in
theorem gd_11 : zGd 0 (1, 1, false, in_11) mt_11 ∧ plainName mt_11.1.cls = true := ⟨zGd_of (tb := zFn) (pl := zPl_1) rfl pk_1 (List.all_eq_true.mp dk_11) (List.all_eq_true.mp gc_11) (by decide +kernel) (by decide +kernel) (by decide +kernel) zacl, by decide +kernel⟩
set_option maxRecDepth 100000 in
theorem gc_12 : (in_12.all (zci zFn zPl_1 1 mt_12 false)) = true := by decide +kernel
set_option maxRecDepth 100000 in
theorem gd_12 : zGd 0 (1, 2, false, in_12) mt_12 ∧ plainName mt_12.1.cls = true := ⟨zGd_of (tb := zFn) (pl := zPl_1) rfl pk_1 (List.all_eq_true.mp dk_12) (List.all_eq_true.mp gc_12) (by decide +kernel) (by decide +kernel) (by decide +kernel) zacl, by decide +kernel⟩
set_option maxRecDepth 100000 in
theorem gc_13 : (in_13.all (zci zFn zPl_1 1 mt_13 false)) = true := by decide +kernel
set_option maxRecDepth 100000 in
theorem gd_13 : zGd 0 (1, 5, false, in_13) mt_13 ∧ plainName mt_13.1.cls = true := ⟨zGd_of (tb := zFn) (pl := zPl_1) rfl pk_1 (List.all_eq_true.mp dk_13) (List.all_eq_true.mp gc_13) (by decide +kernel) (by decide +kernel) (by decide +kernel) zacl, by decide +kernel⟩
set_option maxRecDepth 100000 in
theorem gc_14 : (in_14.all (zci zFn zPl_1 1 mt_14 true)) = true := by decide +kernel
set_option maxRecDepth 100000 in
theorem gd_14 : zGd 0 (1, 7, true, in_14) mt_14 ∧ plainName mt_14.1.cls = true := ⟨zGd_of (tb := zFn) (pl := zPl_1) rfl pk_1 (List.all_eq_true.mp dk_14) (List.all_eq_true.mp gc_14) (by decide +kernel) (by decide +kernel) (by decide +kernel) zacl, by decide +kernel⟩
set_option maxRecDepth 100000 in
theorem gc_15 : (in_15.all (zci zFn zPl_1 1 mt_15 true)) = true := by decide +kernel
set_option maxRecDepth 100000 in
theorem gd_15 : zGd 0 (1, 3, true, in_15) mt_15 ∧ plainName mt_15.1.cls = true := ⟨zGd_of (tb := zFn) (pl := zPl_1) rfl pk_1 (List.all_eq_true.mp dk_15) (List.all_eq_true.mp gc_15) (by decide +kernel) (by decide +kernel) (by decide +kernel) zacl, by decide +kernel⟩
set_option maxRecDepth 100000 in
theorem gc_16 : (in_16.all (zci zFn zPl_1 1 mt_16 true)) = true := by decide +kernel
set_option maxRecDepth 100000 in
theorem gd_16 : zGd 0 (1, 3, true, in_16) mt_16 ∧ plainName mt_16.1.cls = true := ⟨zGd_of (tb := zFn) (pl := zPl_1) rfl pk_1 (List.all_eq_true.mp dk_16) (List.all_eq_true.mp gc_16) (by decide +kernel) (by decide +kernel) (by decide +kernel) zacl, by decide +kernel⟩
set_option maxRecDepth 100000 in
theorem gc_17 : (in_17.all (zci zFn zPl_1 1 mt_17 true)) = true := by decide +kernel
set_option maxRecDepth 100000 in
theorem gd_17 : zGd 0 (1, 6, true, in_17) mt_17 ∧ plainName mt_17.1.cls = true := ⟨zGd_of (tb := zFn) (pl := zPl_1) rfl pk_1 (List.all_eq_true.mp dk_17) (List.all_eq_true.mp gc_17) (by decide +kernel) (by decide +kernel) (by decide +kernel) zacl, by decide +kernel⟩
set_option maxRecDepth 100000 in
theorem gc_18 : (in_18.all (zci zFn zPl_1 1 mt_18 true)) = true := by decide +kernel
set_option maxRecDepth 100000 in
theorem gd_18 : zGd 0 (1, 11, true, in_18) mt_18 ∧ plainName mt_18.1.cls = true := ⟨zGd_of (tb := zFn) (pl := zPl_1) rfl pk_1 (List.all_eq_true.mp dk_18) (List.all_eq_true.mp gc_18) (by decide +kernel) (by decide +kernel) (by decide +kernel) zacl, by decide +kernel⟩
set_option maxRecDepth 100000 in
theorem gc_19 : (in_19.all (zci zFn zPl_1 1 mt_19 false)) = true := by decide +kernel
set_option maxRecDepth 100000 in
theorem gd_19 : zGd 0 (1, 6, false, in_19) mt_19 ∧ plainName mt_19.1.cls = true := ⟨zGd_of (tb := zFn) (pl := zPl_1) rfl pk_1 (List.all_eq_true.mp dk_19) (List.all_eq_true.mp gc_19) (by decide +kernel) (by decide +kernel) (by decide +kernel) zacl, by decide +kernel⟩
set_option maxRecDepth 100000 in
theorem gc_20 : (in_20.all (zci zFn zPl_1 1 mt_20 false)) = true := by decide +kernel
set_option maxRecDepth 100000 in
theorem gd_20 : zGd 0 (1, 2, false, in_20) mt_20 ∧ plainName mt_20.1.cls = true := ⟨zGd_of (tb := zFn) (pl := zPl_1) rfl pk_1 (List.all_eq_true.mp dk_20) (List.all_eq_true.mp gc_20) (by decide +kernel) (by decide +kernel) (by decide +kernel) zacl, by decide +kernel⟩
set_option maxRecDepth 100000 in
theorem gc_21 : (in_21.all (zci zFn zPl_1 1 mt_21 true)) = true := by decide +kernel
set_option maxRecDepth 100000 in
theorem gd_21 : zGd 0 (1, 3, true, in_21) mt_21 ∧ plainName mt_21.1.cls = true := ⟨zGd_of (tb := zFn) (pl := zPl_1) rfl pk_1 (List.all_eq_true.mp dk_21) (List.all_eq_true.mp gc_21) (by decide +kernel) (by decide +kernel) (by decide +kernel) zacl, by decide +kernel⟩
set_option maxRecDepth 100000 in
theorem gc_22 : (in_22.all (zci zFn zPl_1 1 mt_22 true)) = true := by decide +kernel
set_option maxRecDepth 100000 in
theorem gd_22 : zGd 0 (1, 3, true, in_22) mt_22 ∧ plainName mt_22.1.cls = true := ⟨zGd_of (tb := zFn) (pl := zPl_1) rfl pk_1 (List.all_eq_true.mp dk_22) (List.all_eq_true.mp gc_22) (by decide +kernel) (by decide +kernel) (by decide +kernel) zacl, by decide +kernel⟩
set_option maxRecDepth 100000 in
theorem gc_23 : (in_23.all (zci zFn zPl_1 1 mt_23 false)) = true := by decide +kernel
set_option maxRecDepth 100000 in
theorem gd_23 : zGd 0 (1, 3, false, in_23) mt_23 ∧ plainName mt_23.1.cls = true := ⟨zGd_of (tb := zFn) (pl := zPl_1) rfl pk_1 (List.all_eq_true.mp dk_23) (List.all_eq_true.mp gc_23) (by decide +kernel) (by decide +kernel) (by decide +kernel) zacl, by decide +kernel⟩
set_option maxRecDepth 100000 in
theorem gc_24 : (in_24.all (zci zFn zPl_1 1 mt_24 false)) = true := by decide +kernel
set_option maxRecDepth 100000 in
theorem gd_24 : zGd 0 (1, 5, false, in_24) mt_24 ∧ plainName mt_24.1.cls = true := ⟨zGd_of (tb := zFn) (pl := zPl_1) rfl pk_1 (List.all_eq_true.mp dk_24) (List.all_eq_true.mp gc_24) (by decide +kernel) (by decide +kernel) (by decide +kernel) zacl, by decide +kernel⟩
set_option maxRecDepth 100000 in
theorem gc_25 : (in_25.all (zci zFn zPl_1 1 mt_25 false)) = true := by decide +kernel
set_option maxRecDepth 100000 in
theorem gd_25 : zGd 0 (1, 5, false, in_25) mt_25 ∧ plainName mt_25.1.cls = true := ⟨zGd_of (tb := zFn) (pl := zPl_1) rfl pk_1 (List.all_eq_true.mp dk_25) (List.all_eq_true.mp gc_25) (by decide +kernel) (by decide +kernel) (by decide +kernel) zacl, by decide +kernel⟩
set_option maxRecDepth 100000 in
theorem gc_26 : (in_26.all (zci zFn zPl_1 1 mt_26 false)) = true := by decide +kernel
set_option maxRecDepth 100000 in
theorem gd_26 : zGd 0 (1, 2, false, in_26) mt_26 ∧ plainName mt_26.1.cls = true := ⟨zGd_of (tb := zFn) (pl := zPl_1) rfl pk_1 (List.all_eq_true.mp dk_26) (List.all_eq_true.mp gc_26) (by decide +kernel) (by decide +kernel) (by decide +kernel) zacl, by decide +kernel⟩
set_option maxRecDepth 100000 in
theorem gc_27 : (in_27.all (zci zFn zPl_1 1 mt_27 false)) = true := by decide +kernel
set_option maxRecDepth 100000 in
theorem gd_27 : zGd 0 (1, 4, false, in_27) mt_27 ∧ plainName mt_27.1.cls = true := ⟨zGd_of (tb := zFn) (pl := zPl_1) rfl pk_1 (List.all_eq_true.mp dk_27) (List.all_eq_true.mp gc_27) (by decide +kernel) (by decide +kernel) (by decide +kernel) zacl, by decide +kernel⟩
set_option maxRecDepth 100000 in
theorem gc_28 : (in_28.all (zci zFn zPl_1 1 mt_28 false)) = true := by decide +kernel
set_option maxRecDepth 100000 in
theorem gd_28 : zGd 0 (1, 2, false, in_28) mt_28 ∧ plainName mt_28.1.cls = true := ⟨zGd_of (tb := zFn) (pl := zPl_1) rfl pk_1 (List.all_eq_true.mp dk_28) (List.all_eq_true.mp gc_28) (by decide +kernel) (by decide +kernel) (by decide +kernel) zacl, by decide +kernel⟩
set_option maxRecDepth 100000 in
theorem gc_29 : (in_29.all (zci zFn zPl_1 1 mt_29 false)) = true := by decide +kernel
set_option maxRecDepth 100000 in
theorem gd_29 : zGd 0 (1, 1, false, in_29) mt_29 ∧ plainName mt_29.1.cls = true := ⟨zGd_of (tb := zFn) (pl := zPl_1) rfl pk_1 (List.all_eq_true.mp dk_29) (List.all_eq_true.mp gc_29) (by decide +kernel) (by decide +kernel) (by decide +kernel) zacl, by decide +kernel⟩
set_option maxRecDepth 100000 in
theorem gc_30 : (in_30.all (zci zFn zPl_1 1 mt_30 false)) = true := by decide +kernel
set_option maxRecDepth 100000 in
theorem gd_30 : zGd 0 (1, 1, false, in_30) mt_30 ∧ plainName mt_30.1.cls = true := ⟨zGd_of (tb := zFn) (pl := zPl_1) rfl pk_1 (List.all_eq_true.mp dk_30) (List.all_eq_true.mp gc_30) (by decide +kernel) (by decide +kernel) (by decide +kernel) zacl, by decide +kernel⟩
set_option maxRecDepth 100000 in
theorem gc_31 : (in_31.all (zci zFn zPl_1 1 mt_31 false)) = true := by decide +kernel
set_option maxRecDepth 100000 in
theorem gd_31 : zGd 0 (1, 4, false, in_31) mt_31 ∧ plainName mt_31.1.cls = true := ⟨zGd_of (tb := zFn) (pl := zPl_1) rfl pk_1 (List.all_eq_true.mp dk_31) (List.all_eq_true.mp gc_31) (by decide +kernel) (by decide +kernel) (by decide +kernel) zacl, by decide +kernel⟩
set_option maxRecDepth 100000 in
theorem gc_32 : (in_32.all (zci zFn zPl_1 1 mt_32 false)) = true := by decide +kernel
set_option maxRecDepth 100000 in
theorem gd_32 : zGd 0 (1, 4, false, in_32) mt_32 ∧ plainName mt_32.1.cls = true := ⟨zGd_of (tb := zFn) (pl := zPl_1) rfl pk_1 (List.all_eq_true.mp dk_32) (List.all_eq_true.mp gc_32) (by decide +kernel) (by decide +kernel) (by decide +kernel) zacl, by decide +kernel⟩
set_option maxRecDepth 100000 in
theorem gc_33 : (in_33.all (zci zFn zPl_2 2 mt_33 false)) = true := by decide +kernel
set_option maxRecDepth 100000 in
theorem gd_33 : zGd 0 (2, 1, false, in_33) mt_33 ∧ plainName mt_33.1.cls = true := ⟨zGd_of (tb := zFn) (pl := zPl_2) rfl pk_2 (List.all_eq_true.mp dk_33) (List.all_eq_true.mp gc_33) (by decide +kernel) (by decide +kernel) (by decide +kernel) zacl, by decide +kernel⟩
set_option maxRecDepth 100000 in
theorem gc_34 : (in_34.all (zci zFn zPl_2 2 mt_34 false)) = true := by decide +kernel
set_option maxRecDepth 100000 in
theorem gd_34 : zGd 0 (2, 2, false, in_34) mt_34 ∧ plainName mt_34.1.cls = true := ⟨zGd_of (tb := zFn) (pl := zPl_2) rfl pk_2 (List.all_eq_true.mp dk_34) (List.all_eq_true.mp gc_34) (by decide +kernel) (by decide +kernel) (by decide +kernel) zacl, by decide +kernel⟩
set_option maxRecDepth 100000 in
theorem gc_35 : (in_35.all (zci zFn zPl_2 2 mt_35 false)) = true := by decide +kernel
set_option maxRecDepth 100000 in
theorem gd_35 : zGd 0 (2, 2, false, in_35) mt_35 ∧ plainName mt_35.1.cls = true := ⟨zGd_of (tb := zFn) (pl := zPl_2) rfl pk_2 (List.all_eq_true.mp dk_35) (List.all_eq_true.mp gc_35) (by decide +kernel) (by decide +kernel) (by decide +kernel) zacl, by decide +kernel⟩
set_option maxRecDepth 100000 in
theorem gc_36 : (in_36.all (zci zFn zPl_2 2 mt_36 false)) = true := by decide +kernel
set_option maxRecDepth 100000 in
theorem gd_36 : zGd 0 (2, 3, false, in_36) mt_36 ∧ plainName mt_36.1.cls = true := ⟨zGd_of (tb := zFn) (pl := zPl_2) rfl pk_2 (List.all_eq_true.mp dk_36) (List.all_eq_true.mp gc_36) (by decide +kernel) (by decide +kernel) (by decide +kernel) zacl, by decide +kernel⟩
set_option maxRecDepth 100000 in
theorem gc_37 : (in_37.all (zci zFn zPl_2 2 mt_37 false)) = true := by decide +kernel
set_option maxRecDepth 100000 in
theorem gd_37 : zGd 0 (2, 2, false, in_37) mt_37 ∧ plainName mt_37.1.cls = true := ⟨zGd_of (tb := zFn) (pl := zPl_2) rfl pk_2 (List.all_eq_true.mp dk_37) (List.all_eq_true.mp gc_37) (by decide +kernel) (by decide +kernel) (by decide +kernel) zacl, by decide +kernel⟩
set_option maxRecDepth 100000 in
theorem gc_38 : (in_38.all (zci zFn zPl_2 2 mt_38 false)) = true := by decide +kernel
set_option maxRecDepth 100000 in
theorem gd_38 : zGd 0 (2, 3, false, in_38) mt_38 ∧ plainName mt_38.1.cls = true := ⟨zGd_of (tb := zFn) (pl := zPl_2) rfl pk_2 (List.all_eq_true.mp dk_38) (List.all_eq_true.mp gc_38) (by decide +kernel) (by decide +kernel) (by decide +kernel) zacl, by decide +kernel⟩
set_option maxRecDepth 100000 in
theorem gc_39 : (in_39.all (zci zFn zPl_2 2 mt_39 true)) = true := by decide +kernel
set_option maxRecDepth 100000 in
theorem gd_39 : zGd 0 (2, 2, true, in_39) mt_39 ∧ plainName mt_39.1.cls = true := ⟨zGd_of (tb := zFn) (pl := zPl_2) rfl pk_2 (List.all_eq_true.mp dk_39) (List.all_eq_true.mp gc_39) (by decide +kernel) (by decide +kernel) (by decide +kernel) zacl, by decide +kernel⟩
set_option maxRecDepth 100000 in
theorem gc_40 : (in_40.all (zci zFn zPl_2 2 mt_40 true)) = true := by decide +kernel
set_option maxRecDepth 100000 in
theorem gd_40 : zGd 0 (2, 2, true, in_40) mt_40 ∧ plainName mt_40.1.cls = true := ⟨zGd_of (tb := zFn) (pl := zPl_2) rfl pk_2 (List.all_eq_true.mp dk_40) (List.all_eq_true.mp gc_40) (by decide +kernel) (by decide +kernel) (by decide +kernel) zacl, by decide +kernel⟩
set_option maxRecDepth 100000 in
theorem gc_41 : (in_41.all (zci zFn zPl_2 2 mt_41 true)) = true := by decide +kernel
set_option maxRecDepth 100000 in
theorem gd_41 : zGd 0 (2, 2, true, in_41) mt_41 ∧ plainName mt_41.1.cls = true := ⟨zGd_of (tb := zFn) (pl := zPl_2) rfl pk_2 (List.all_eq_true.mp dk_41) (List.all_eq_true.mp gc_41) (by decide +kernel) (by decide +kernel) (by decide +kernel) zacl, by decide +kernel⟩
set_option maxRecDepth 100000 in
theorem gc_42 : (in_42.all (zci zFn zPl_2 2 mt_42 true)) = true := by decide +kernel
set_option maxRecDepth 100000 in
theorem gd_42 : zGd 0 (2, 4, true, in_42) mt_42 ∧ plainName mt_42.1.cls = true := ⟨zGd_of (tb := zFn) (pl := zPl_2) rfl pk_2 (List.all_eq_true.mp dk_42) (List.all_eq_true.mp gc_42) (by decide +kernel) (by decide +kernel) (by decide +kernel) zacl, by decide +kernel⟩
set_option maxRecDepth 100000 in
theorem gc_43 : (in_43.all (zci zFn zPl_2 2 mt_43 true)) = true := by decide +kernel
set_option maxRecDepth 100000 in
theorem gd_43 : zGd 0 (2, 3, true, in_43) mt_43 ∧ plainName mt_43.1.cls = true := ⟨zGd_of (tb := zFn) (pl := zPl_2) rfl pk_2 (List.all_eq_true.mp dk_43) (List.all_eq_true.mp gc_43) (by decide +kernel) (by decide +kernel) (by decide +kernel) zacl, by decide +kernel⟩
set_option maxRecDepth 100000 in
theorem gc_44 : (in_44.all (zci zFn zPl_2 2 mt_44 false)) = true := by decide +kernel
set_option maxRecDepth 100000 in
theorem gd_44 : zGd 0 (2, 3, false, in_44) mt_44 ∧ plainName mt_44.1.cls = true := ⟨zGd_of (tb := zFn) (pl := zPl_2) rfl pk_2 (List.all_eq_true.mp dk_44) (List.all_eq_true.mp gc_44) (by decide +kernel) (by decide +kernel) (by decide +kernel) zacl, by decide +kernel⟩
set_option maxRecDepth 100000 in
theorem gc_45 : (in_45.all (zci zFn zPl_2 2 mt_45 false)) = true := by decide +kernel
set_option maxRecDepth 100000 in
theorem gd_45 : zGd 0 (2, 2, false, in_45) mt_45 ∧ plainName mt_45.1.cls = true := ⟨zGd_of (tb := zFn) (pl := zPl_2) rfl pk_2 (List.all_eq_true.mp dk_45) (List.all_eq_true.mp gc_45) (by decide +kernel) (by decide +kernel) (by decide +kernel) zacl, by decide +kernel⟩
set_option maxRecDepth 100000 in
theorem gc_46 : (in_46.all (zci zFn zPl_2 2 mt_46 true)) = true := by decide +kernel
set_option maxRecDepth 100000 in
theorem gd_46 : zGd 0 (2, 4, true, in_46) mt_46 ∧ plainName mt_46.1.cls = true := ⟨zGd_of (tb := zFn) (pl := zPl_2) rfl pk_2 (List.all_eq_true.mp dk_46) (List.all_eq_true.mp gc_46) (by decide +kernel) (by decide +kernel) (by decide +kernel) zacl, by decide +kernel⟩
set_option maxRecDepth 100000 in
theorem gc_47 : (in_47.all (zci zFn zPl_2 2 mt_47 false)) = true := by decide +kernel
set_option maxRecDepth 100000 in
theorem gd_47 : zGd 0 (2, 7, false, in_47) mt_47 ∧ plainName mt_47.1.cls = true := ⟨zGd_of (tb := zFn) (pl := zPl_2) rfl pk_2 (List.all_eq_true.mp dk_47) (List.all_eq_true.mp gc_47) (by decide +kernel) (by decide +kernel) (by decide +kernel) zacl, by decide +kernel⟩
set_option maxRecDepth 100000 in
theorem gc_48 : (in_48.all (zci zFn zPl_2 2 mt_48 false)) = true := by decide +kernel
set_option maxRecDepth 100000 in
theorem gd_48 : zGd 0 (2, 4, false, in_48) mt_48 ∧ plainName mt_48.1.cls = true := ⟨zGd_of (tb := zFn) (pl := zPl_2) rfl pk_2 (List.all_eq_true.mp dk_48) (List.all_eq_true.mp gc_48) (by decide +kernel) (by decide +kernel) (by decide +kernel) zacl, by decide +kernel⟩
set_option maxRecDepth 100000 in
theorem gc_49 : (in_49.all (zci zFn zPl_2 2 mt_49 false)) = true := by decide +kernel
set_option maxRecDepth 100000 in
theorem gd_49 : zGd 0 (2, 5, false, in_49) mt_49 ∧ plainName mt_49.1.cls = true := ⟨zGd_of (tb := zFn) (pl := zPl_2) rfl pk_2 (List.all_eq_true.mp dk_49) (List.all_eq_true.mp gc_49) (by decide +kernel) (by decide +kernel) (by decide +kernel) zacl, by decide +kernel⟩
set_option maxRecDepth 100000 in
theorem gc_50 : (in_50.all (zci zFn zPl_2 2 mt_50 false)) = true := by decide +kernel
set_option maxRecDepth 100000 in
theorem gd_50 : zGd 0 (2, 2, false, in_50) mt_50 ∧ plainName mt_50.1.cls = true := ⟨zGd_of (tb := zFn) (pl := zPl_2) rfl pk_2 (List.all_eq_true.mp dk_50) (List.all_eq_true.mp gc_50) (by decide +kernel) (by decide +kernel) (by decide +kernel) zacl, by decide +kernel⟩
set_option maxRecDepth 100000 in
theorem gc_51 : (in_51.all (zci zFn zPl_2 2 mt_51 false)) = true := by decide +kernel
set_option maxRecDepth 100000 in
theorem gd_51 : zGd 0 (2, 4, false, in_51) mt_51 ∧ plainName mt_51.1.cls = true := ⟨zGd_of (tb := zFn) (pl := zPl_2) rfl pk_2 (List.all_eq_true.mp dk_51) (List.all_eq_true.mp gc_51) (by decide +kernel) (by decide +kernel) (by decide +kernel) zacl, by decide +kernel⟩
set_option maxRecDepth 100000 in
theorem gc_52 : (in_52.all (zci zFn zPl_3 3 mt_52 false)) = true := by decide +kernel
set_option maxRecDepth 100000 in
theorem gd_52 : zGd 0 (3, 1, false, in_52) mt_52 ∧ plainName mt_52.1.cls = true := ⟨zGd_of (tb := zFn) (pl := zPl_3) rfl pk_3 (List.all_eq_true.mp dk_52) (List.all_eq_true.mp gc_52) (by decide +kernel) (by decide +kernel) (by decide +kernel) zacl, by decide +kernel⟩
set_option maxRecDepth 100000 in
theorem gc_53 : (in_53.all (zci zFn zPl_3 3 mt_53 false)) = true := by decide +kernel
set_option maxRecDepth 100000 in
theorem gd_53 : zGd 0 (3, 2, false, in_53) mt_53 ∧ plainName mt_53.1.cls = true := ⟨zGd_of (tb := zFn) (pl := zPl_3) rfl pk_3 (List.all_eq_true.mp dk_53) (List.all_eq_true.mp gc_53) (by decide +kernel) (by decide +kernel) (by decide +kernel) zacl, by decide +kernel⟩
set_option maxRecDepth 100000 in
theorem gc_54 : (in_54.all (zci zFn zPl_3 3 mt_54 false)) = true := by decide +kernel
set_option maxRecDepth 100000 in
theorem gd_54 : zGd 0 (3, 4, false, in_54) mt_54 ∧ plainName mt_54.1.cls = true := ⟨zGd_of (tb := zFn) (pl := zPl_3) rfl pk_3 (List.all_eq_true.mp dk_54) (List.all_eq_true.mp gc_54) (by decide +kernel) (by decide +kernel) (by decide +kernel) zacl, by decide +kernel⟩
set_option maxRecDepth 100000 in
theorem gc_55 : (in_55.all (zci zFn zPl_3 3 mt_55 false)) = true := by decide +kernel
set_option maxRecDepth 100000 in
theorem gd_55 : zGd 0 (3, 3, false, in_55) mt_55 ∧ plainName mt_55.1.cls = true := ⟨zGd_of (tb := zFn) (pl := zPl_3) rfl pk_3 (List.all_eq_true.mp dk_55) (List.all_eq_true.mp gc_55) (by decide +kernel) (by decide +kernel) (by decide +kernel) zacl, by decide +kernel⟩
set_option maxRecDepth 100000 in
theorem gc_56 : (in_56.all (zci zFn zPl_4 4 mt_56 false)) = true := by decide +kernel
set_option maxRecDepth 100000 in
theorem gd_56 : zGd 0 (4, 1, false, in_56) mt_56 ∧ plainName mt_56.1.cls = true := ⟨zGd_of (tb := zFn) (pl := zPl_4) rfl pk_4 (List.all_eq_true.mp dk_56) (List.all_eq_true.mp gc_56) (by decide +kernel) (by decide +kernel) (by decide +kernel) zacl, by decide +kernel⟩
set_option maxRecDepth 100000 in
theorem gc_57 : (in_57.all (zci zFn zPl_4 4 mt_57 false)) = true := by decide +kernel
set_option maxRecDepth 100000 in
theorem gd_57 : zGd 0 (4, 7, false, in_57) mt_57 ∧ plainName mt_57.1.cls = true := ⟨zGd_of (tb := zFn) (pl := zPl_4) rfl pk_4 (List.all_eq_true.mp dk_57) (List.all_eq_true.mp gc_57) (by decide +kernel) (by decide +kernel) (by decide +kernel) zacl, by decide +kernel⟩
set_option maxRecDepth 100000 in
theorem gc_58 : (in_58.all (zci zFn zPl_4 4 mt_58 false)) = true := by decide +kernel
set_option maxRecDepth 100000 in
theorem gd_58 : zGd 0 (4, 6, false, in_58) mt_58 ∧ plainName mt_58.1.cls = true := ⟨zGd_of (tb := zFn) (pl := zPl_4) rfl pk_4 (List.all_eq_true.mp dk_58) (List.all_eq_true.mp gc_58) (by decide +kernel) (by decide +kernel) (by decide +kernel) zacl, by decide +kernel⟩
set_option maxRecDepth 100000 in
theorem gc_59 : (in_59.all (zci zFn zPl_4 4 mt_59 false)) = true := by decide +kernel
set_option maxRecDepth 100000 in
theorem gd_59 : zGd 0 (4, 5, false, in_59) mt_59 ∧ plainName mt_59.1.cls = true := ⟨zGd_of (tb := zFn) (pl := zPl_4) rfl pk_4 (List.all_eq_true.mp dk_59) (List.all_eq_true.mp gc_59) (by decide +kernel) (by decide +kernel) (by decide +kernel) zacl, by decide +kernel⟩
set_option maxRecDepth 100000 in
theorem gc_60 : (in_60.all (zci zFn zPl_4 4 mt_60 false)) = true := by decide +kernel
set_option maxRecDepth 100000 in
theorem gd_60 : zGd 0 (4, 1, false, in_60) mt_60 ∧ plainName mt_60.1.cls = true := ⟨zGd_of (tb := zFn) (pl := zPl_4) rfl pk_4 (List.all_eq_true.mp dk_60) (List.all_eq_true.mp gc_60) (by decide +kernel) (by decide +kernel) (by decide +kernel) zacl, by decide +kernel⟩
set_option maxRecDepth 100000 in
theorem gc_61 : (in_61.all (zci zFn zPl_4 4 mt_61 false)) = true := by decide +kernel
set_option maxRecDepth 100000 in
theorem gd_61 : zGd 0 (4, 6, false, in_61) mt_61 ∧ plainName mt_61.1.cls = true := ⟨zGd_of (tb := zFn) (pl := zPl_4) rfl pk_4 (List.all_eq_true.mp dk_61) (List.all_eq_true.mp gc_61) (by decide +kernel) (by decide +kernel) (by decide +kernel) zacl, by decide +kernel⟩
set_option maxRecDepth 100000 in
theorem gc_62 : (in_62.all (zci zFn zPl_4 4 mt_62 false)) = true := by decide +kernel
set_option maxRecDepth 100000 in
theorem gd_62 : zGd 0 (4, 6, false, in_62) mt_62 ∧ plainName mt_62.1.cls = true := ⟨zGd_of (tb := zFn) (pl := zPl_4) rfl pk_4 (List.all_eq_true.mp dk_62) (List.all_eq_true.mp gc_62) (by decide +kernel) (by decide +kernel) (by decide +kernel) zacl, by decide +kernel⟩
set_option maxRecDepth 100000 in
theorem gc_63 : (in_63.all (zci zFn zPl_4 4 mt_63 false)) = true := by decide +kernel
set_option maxRecDepth 100000 in
theorem gd_63 : zGd 0 (4, 6, false, in_63) mt_63 ∧ plainName mt_63.1.cls = true := ⟨zGd_of (tb := zFn) (pl := zPl_4) rfl pk_4 (List.all_eq_true.mp dk_63) (List.all_eq_true.mp gc_63) (by decide +kernel) (by decide +kernel) (by decide +kernel) zacl, by decide +kernel⟩
set_option maxRecDepth 100000 in
theorem gc_64 : (in_64.all (zci zFn zPl_4 4 mt_64 true)) = true := by decide +kernel
set_option maxRecDepth 100000 in
theorem gd_64 : zGd 0 (4, 4, true, in_64) mt_64 ∧ plainName mt_64.1.cls = true := ⟨zGd_of (tb := zFn) (pl := zPl_4) rfl pk_4 (List.all_eq_true.mp dk_64) (List.all_eq_true.mp gc_64) (by decide +kernel) (by decide +kernel) (by decide +kernel) zacl, by decide +kernel⟩
set_option maxRecDepth 100000 in
theorem gc_65 : (in_65.all (zci zFn zPl_4 4 mt_65 false)) = true := by decide +kernel
set_option maxRecDepth 100000 in
theorem gd_65 : zGd 0 (4, 8, false, in_65) mt_65 ∧ plainName mt_65.1.cls = true := ⟨zGd_of (tb := zFn) (pl := zPl_4) rfl pk_4 (List.all_eq_true.mp dk_65) (List.all_eq_true.mp gc_65) (by decide +kernel) (by decide +kernel) (by decide +kernel) zacl, by decide +kernel⟩
set_option maxRecDepth 100000 in
theorem gc_66 : (in_66.all (zci zFn zPl_4 4 mt_66 false)) = true := by decide +kernel
set_option maxRecDepth 100000 in
theorem gd_66 : zGd 0 (4, 3, false, in_66) mt_66 ∧ plainName mt_66.1.cls = true := ⟨zGd_of (tb := zFn) (pl := zPl_4) rfl pk_4 (List.all_eq_true.mp dk_66) (List.all_eq_true.mp gc_66) (by decide +kernel) (by decide +kernel) (by decide +kernel) zacl, by decide +kernel⟩
set_option maxRecDepth 100000 in
theorem gc_67 : (in_67.all (zci zFn zPl_4 4 mt_67 false)) = true := by decide +kernel
set_option maxRecDepth 100000 in
theorem gd_67 : zGd 0 (4, 1, false, in_67) mt_67 ∧ plainName mt_67.1.cls = true := ⟨zGd_of (tb := zFn) (pl := zPl_4) rfl pk_4 (List.all_eq_true.mp dk_67) (List.all_eq_true.mp gc_67) (by decide +kernel) (by decide +kernel) (by decide +kernel) zacl, by decide +kernel⟩
set_option maxRecDepth 100000 in
theorem gc_68 : (in_68.all (zci zFn zPl_4 4 mt_68 false)) = true := by decide +kernel
set_option maxRecDepth 100000 in
theorem gd_68 : zGd 0 (4, 3, false, in_68) mt_68 ∧ plainName mt_68.1.cls = true := ⟨zGd_of (tb := zFn) (pl := zPl_4) rfl pk_4 (List.all_eq_true.mp dk_68) (List.all_eq_true.mp gc_68) (by decide +kernel) (by decide +kernel) (by decide +kernel) zacl, by decide +kernel⟩
set_option maxRecDepth 100000 in
theorem gc_69 : (in_69.all (zci zFn zPl_4 4 mt_69 false)) = true := by decide +kernel
set_option maxRecDepth 100000 in
theorem gd_69 : zGd 0 (4, 8, false, in_69) mt_69 ∧ plainName mt_69.1.cls = true := ⟨zGd_of (tb := zFn) (pl := zPl_4) rfl pk_4 (List.all_eq_true.mp dk_69) (List.all_eq_true.mp gc_69) (by decide +kernel) (by decide +kernel) (by decide +kernel) zacl, by decide +kernel⟩
set_option maxRecDepth 100000 in
theorem gc_70 : (in_70.all (zci zFn zPl_4 4 mt_70 false)) = true := by decide +kernel
set_option maxRecDepth 100000 in
theorem gd_70 : zGd 0 (4, 3, false, in_70) mt_70 ∧ plainName mt_70.1.cls = true := ⟨zGd_of (tb := zFn) (pl := zPl_4) rfl pk_4 (List.all_eq_true.mp dk_70) (List.all_eq_true.mp gc_70) (by decide +kernel) (by decide +kernel) (by decide +kernel) zacl, by decide +kernel⟩
set_option maxRecDepth 100000 in
theorem gc_71 : (in_71.all (zci zFn zPl_4 4 mt_71 false)) = true := by decide +kernel
set_option maxRecDepth 100000 in
theorem gd_71 : zGd 0 (4, 1, false, in_71) mt_71 ∧ plainName mt_71.1.cls = true := ⟨zGd_of (tb := zFn) (pl := zPl_4) rfl pk_4 (List.all_eq_true.mp dk_71) (List.all_eq_true.mp gc_71) (by decide +kernel) (by decide +kernel) (by decide +kernel) zacl, by decide +kernel⟩
set_option maxRecDepth 100000 in
theorem gc_72 : (in_72.all (zci zFn zPl_4 4 mt_72 false)) = true := by decide +kernel
set_option maxRecDepth 100000 in
theorem gd_72 : zGd 0 (4, 6, false, in_72) mt_72 ∧ plainName mt_72.1.cls = true := ⟨zGd_of (tb := zFn) (pl := zPl_4) rfl pk_4 (List.all_eq_true.mp dk_72) (List.all_eq_true.mp gc_72) (by decide +kernel) (by decide +kernel) (by decide +kernel) zacl, by decide +kernel⟩
set_option maxRecDepth 100000 in
theorem gc_73 : (in_73.all (zci zFn zPl_4 4 mt_73 false)) = true := by decide +kernel
set_option maxRecDepth 100000 in
theorem gd_73 : zGd 0 (4, 4, false, in_73) mt_73 ∧ plainName mt_73.1.cls = true := ⟨zGd_of (tb := zFn) (pl := zPl_4) rfl pk_4 (List.all_eq_true.mp dk_73) (List.all_eq_true.mp gc_73) (by decide +kernel) (by decide +kernel) (by decide +kernel) zacl, by decide +kernel⟩
set_option maxRecDepth 100000 in
theorem gc_74 : (in_74.all (zci zFn zPl_5 5 mt_74 false)) = true := by decide +kernel
set_option maxRecDepth 100000 in
theorem gd_74 : zGd 0 (5, 2, false, in_74) mt_74 ∧ plainName mt_74.1.cls = true := ⟨zGd_of (tb := zFn) (pl := zPl_5) rfl pk_5 (List.all_eq_true.mp dk_74) (List.all_eq_true.mp gc_74) (by decide +kernel) (by decide +kernel) (by decide +kernel) zacl, by decide +kernel⟩
set_option maxRecDepth 100000 in
theorem gc_75 : (in_75.all (zci zFn zPl_5 5 mt_75 false)) = true := by decide +kernel
set_option maxRecDepth 100000 in
theorem gd_75 : zGd 0 (5, 3, false, in_75) mt_75 ∧ plainName mt_75.1.cls = true := ⟨zGd_of (tb := zFn) (pl := zPl_5) rfl pk_5 (List.all_eq_true.mp dk_75) (List.all_eq_true.mp gc_75) (by decide +kernel) (by decide +kernel) (by decide +kernel) zacl, by decide +kernel⟩
set_option maxRecDepth 100000 in
theorem gc_76 : (in_76.all (zci zFn zPl_5 5 mt_76 true)) = true := by decide +kernel
set_option maxRecDepth 100000 in
theorem gd_76 : zGd 0 (5, 4, true, in_76) mt_76 ∧ plainName mt_76.1.cls = true := ⟨zGd_of (tb := zFn) (pl := zPl_5) rfl pk_5 (List.all_eq_true.mp dk_76) (List.all_eq_true.mp gc_76) (by decide +kernel) (by decide +kernel) (by decide +kernel) zacl, by decide +kernel⟩
set_option maxRecDepth 100000 in
theorem gc_77 : (in_77.all (zci zFn zPl_5 5 mt_77 false)) = true := by decide +kernel
set_option maxRecDepth 100000 in
theorem gd_77 : zGd 0 (5, 2, false, in_77) mt_77 ∧ plainName mt_77.1.cls = true := ⟨zGd_of (tb := zFn) (pl := zPl_5) rfl pk_5 (List.all_eq_true.mp dk_77) (List.all_eq_true.mp gc_77) (by decide +kernel) (by decide +kernel) (by decide +kernel) zacl, by decide +kernel⟩
set_option maxRecDepth 100000 in
theorem gc_78 : (in_78.all (zci zFn zPl_5 5 mt_78 true)) = true := by decide +kernel
set_option maxRecDepth 100000 in
theorem gd_78 : zGd 0 (5, 2, true, in_78) mt_78 ∧ plainName mt_78.1.cls = true := ⟨zGd_of (tb := zFn) (pl := zPl_5) rfl pk_5 (List.all_eq_true.mp dk_78) (List.all_eq_true.mp gc_78) (by decide +kernel) (by decide +kernel) (by decide +kernel) zacl, by decide +kernel⟩
set_option maxRecDepth 100000 in
theorem gc_79 : (in_79.all (zci zFn zPl_5 5 mt_79 true)) = true := by decide +kernel
set_option maxRecDepth 100000 in
theorem gd_79 : zGd 0 (5, 5, true, in_79) mt_79 ∧ plainName mt_79.1.cls = true := ⟨zGd_of (tb := zFn) (pl := zPl_5) rfl pk_5 (List.all_eq_true.mp dk_79) (List.all_eq_true.mp gc_79) (by decide +kernel) (by decide +kernel) (by decide +kernel) zacl, by decide +kernel⟩
set_option maxRecDepth 100000 in
theorem gc_80 : (in_80.all (zci zFn zPl_5 5 mt_80 false)) = true := by decide +kernel
set_option maxRecDepth 100000 in
theorem gd_80 : zGd 0 (5, 3, false, in_80) mt_80 ∧ plainName mt_80.1.cls = true := ⟨zGd_of (tb := zFn) (pl := zPl_5) rfl pk_5 (List.all_eq_true.mp dk_80) (List.all_eq_true.mp gc_80) (by decide +kernel) (by decide +kernel) (by decide +kernel) zacl, by decide +kernel⟩
set_option maxRecDepth 100000 in
theorem gc_81 : (in_81.all (zci zFn zPl_5 5 mt_81 false)) = true := by decide +kernel
set_option maxRecDepth 100000 in
theorem gd_81 : zGd 0 (5, 2, false, in_81) mt_81 ∧ plainName mt_81.1.cls = true := ⟨zGd_of (tb := zFn) (pl := zPl_5) rfl pk_5 (List.all_eq_true.mp dk_81) (List.all_eq_true.mp gc_81) (by decide +kernel) (by decide +kernel) (by decide +kernel) zacl, by decide +kernel⟩
set_option maxRecDepth 100000 in
theorem gc_82 : (in_82.all (zci zFn zPl_5 5 mt_82 false)) = true := by decide +kernel
set_option maxRecDepth 100000 in
theorem gd_82 : zGd 0 (5, 1, false, in_82) mt_82 ∧ plainName mt_82.1.cls = true := ⟨zGd_of (tb := zFn) (pl := zPl_5) rfl pk_5 (List.all_eq_true.mp dk_82) (List.all_eq_true.mp gc_82) (by decide +kernel) (by decide +kernel) (by decide +kernel) zacl, by decide +kernel⟩
set_option maxRecDepth 100000 in
theorem gc_83 : (in_83.all (zci zFn zPl_5 5 mt_83 false)) = true := by decide +kernel
set_option maxRecDepth 100000 in
theorem gd_83 : zGd 0 (5, 1, false, in_83) mt_83 ∧ plainName mt_83.1.cls = true := ⟨zGd_of (tb := zFn) (pl := zPl_5) rfl pk_5 (List.all_eq_true.mp dk_83) (List.all_eq_true.mp gc_83) (by decide +kernel) (by decide +kernel) (by decide +kernel) zacl, by decide +kernel⟩
set_option maxRecDepth 100000 in
theorem gc_84 : (in_84.all (zci zFn zPl_5 5 mt_84 false)) = true := by decide +kernel
set_option maxRecDepth 100000 in
theorem gd_84 : zGd 0 (5, 1, false, in_84) mt_84 ∧ plainName mt_84.1.cls = true := ⟨zGd_of (tb := zFn) (pl := zPl_5) rfl pk_5 (List.all_eq_true.mp dk_84) (List.all_eq_true.mp gc_84) (by decide +kernel) (by decide +kernel) (by decide +kernel) zacl, by decide +kernel⟩
set_option maxRecDepth 100000 in
theorem gc_85 : (in_85.all (zci zFn zPl_5 5 mt_85 false)) = true := by decide +kernel
set_option maxRecDepth 100000 in
theorem gd_85 : zGd 0 (5, 1, false, in_85) mt_85 ∧ plainName mt_85.1.cls = true := ⟨zGd_of (tb := zFn) (pl := zPl_5) rfl pk_5 (List.all_eq_true.mp dk_85) (List.all_eq_true.mp gc_85) (by decide +kernel) (by decide +kernel) (by decide +kernel) zacl, by decide +kernel⟩
set_option maxRecDepth 100000 in
theorem gc_86 : (in_86.all (zci zFn zPl_5 5 mt_86 true)) = true := by decide +kernel
set_option maxRecDepth 100000 in
theorem gd_86 : zGd 0 (5, 3, true, in_86) mt_86 ∧ plainName mt_86.1.cls = true := ⟨zGd_of (tb := zFn) (pl := zPl_5) rfl pk_5 (List.all_eq_true.mp dk_86) (List.all_eq_true.mp gc_86) (by decide +kernel) (by decide +kernel) (by decide +kernel) zacl, by decide +kernel⟩
set_option maxRecDepth 100000 in
theorem gc_87 : (in_87.all (zci zFn zPl_5 5 mt_87 false)) = true := by decide +kernel
set_option maxRecDepth 100000 in
theorem gd_87 : zGd 0 (5, 1, false, in_87) mt_87 ∧ plainName mt_87.1.cls = true := ⟨zGd_of (tb := zFn) (pl := zPl_5) rfl pk_5 (List.all_eq_true.mp dk_87) (List.all_eq_true.mp gc_87) (by decide +kernel) (by decide +kernel) (by decide +kernel) zacl, by decide +kernel⟩
set_option maxRecDepth 100000 in
theorem gc_88 : (in_88.all (zci zFn zPl_5 5 mt_88 false)) = true := by decide +kernel
set_option maxRecDepth 100000 in
theorem gd_88 : zGd 0 (5, 1, false, in_88) mt_88 ∧ plainName mt_88.1.cls = true := ⟨zGd_of (tb := zFn) (pl := zPl_5) rfl pk_5 (List.all_eq_true.mp dk_88) (List.all_eq_true.mp gc_88) (by decide +kernel) (by decide +kernel) (by decide +kernel) zacl, by decide +kernel⟩
set_option maxRecDepth 100000 in
theorem gc_89 : (in_89.all (zci zFn zPl_5 5 mt_89 false)) = true := by decide +kernel
set_option maxRecDepth 100000 in
theorem gd_89 : zGd 0 (5, 1, false, in_89) mt_89 ∧ plainName mt_89.1.cls = true := ⟨zGd_of (tb := zFn) (pl := zPl_5) rfl pk_5 (List.all_eq_true.mp dk_89) (List.all_eq_true.mp gc_89) (by decide +kernel) (by decide +kernel) (by decide +kernel) zacl, by decide +kernel⟩
set_option maxRecDepth 100000 in
theorem gc_90 : (in_90.all (zci zFn zPl_5 5 mt_90 true)) = true := by decide +kernel
set_option maxRecDepth 100000 in
theorem gd_90 : zGd 0 (5, 1, true, in_90) mt_90 ∧ plainName mt_90.1.cls = true := ⟨zGd_of (tb := zFn) (pl := zPl_5) rfl pk_5 (List.all_eq_true.mp dk_90) (List.all_eq_true.mp gc_90) (by decide +kernel) (by decide +kernel) (by decide +kernel) zacl, by decide +kernel⟩
set_option maxRecDepth 100000 in
theorem gc_91 : (in_91.all (zci zFn zPl_5 5 mt_91 true)) = true := by decide +kernel
set_option maxRecDepth 100000 in
theorem gd_91 : zGd 0 (5, 1, true, in_91) mt_91 ∧ plainName mt_91.1.cls = true := ⟨zGd_of (tb := zFn) (pl := zPl_5) rfl pk_5 (List.all_eq_true.mp dk_91) (List.all_eq_true.mp gc_91) (by decide +kernel) (by decide +kernel) (by decide +kernel) zacl, by decide +kernel⟩
set_option maxRecDepth 100000 in
theorem gc_92 : (in_92.all (zci zFn zPl_6 6 mt_92 false)) = true := by decide +kernel
set_option maxRecDepth 100000 in
theorem gd_92 : zGd 0 (6, 1, false, in_92) mt_92 ∧ plainName mt_92.1.cls = true := ⟨zGd_of (tb := zFn) (pl := zPl_6) rfl pk_6 (List.all_eq_true.mp dk_92) (List.all_eq_true.mp gc_92) (by decide +kernel) (by decide +kernel) (by decide +kernel) zacl, by decide +kernel⟩
set_option maxRecDepth 100000 in
theorem gc_93 : (in_93.all (zci zFn zPl_6 6 mt_93 false)) = true := by decide +kernel
set_option maxRecDepth 100000 in
theorem gd_93 : zGd 0 (6, 7, false, in_93) mt_93 ∧ plainName mt_93.1.cls = true := ⟨zGd_of (tb := zFn) (pl := zPl_6) rfl pk_6 (List.all_eq_true.mp dk_93) (List.all_eq_true.mp gc_93) (by decide +kernel) (by decide +kernel) (by decide +kernel) zacl, by decide +kernel⟩
set_option maxRecDepth 100000 in
theorem gc_94 : (in_94.all (zci zFn zPl_6 6 mt_94 false)) = true := by decide +kernel
set_option maxRecDepth 100000 in
theorem gd_94 : zGd 0 (6, 6, false, in_94) mt_94 ∧ plainName mt_94.1.cls = true := ⟨zGd_of (tb := zFn) (pl := zPl_6) rfl pk_6 (List.all_eq_true.mp dk_94) (List.all_eq_true.mp gc_94) (by decide +kernel) (by decide +kernel) (by decide +kernel) zacl, by decide +kernel⟩
set_option maxRecDepth 100000 in
theorem gc_95 : (in_95.all (zci zFn zPl_6 6 mt_95 false)) = true := by decide +kernel
set_option maxRecDepth 100000 in
theorem gd_95 : zGd 0 (6, 2, false, in_95) mt_95 ∧ plainName mt_95.1.cls = true := ⟨zGd_of (tb := zFn) (pl := zPl_6) rfl pk_6 (List.all_eq_true.mp dk_95) (List.all_eq_true.mp gc_95) (by decide +kernel) (by decide +kernel) (by decide +kernel) zacl, by decide +kernel⟩
set_option maxRecDepth 100000 in
theorem gc_96 : (in_96.all (zci zFn zPl_6 6 mt_96 false)) = true := by decide +kernel
set_option maxRecDepth 100000 in
theorem gd_96 : zGd 0 (6, 7, false, in_96) mt_96 ∧ plainName mt_96.1.cls = true := ⟨zGd_of (tb := zFn) (pl := zPl_6) rfl pk_6 (List.all_eq_true.mp dk_96) (List.all_eq_true.mp gc_96) (by decide +kernel) (by decide +kernel) (by decide +kernel) zacl, by decide +kernel⟩
set_option maxRecDepth 100000 in
theorem gc_97 : (in_97.all (zci zFn zPl_6 6 mt_97 false)) = true := by decide +kernel
set_option maxRecDepth 100000 in
theorem gd_97 : zGd 0 (6, 9, false, in_97) mt_97 ∧ plainName mt_97.1.cls = true := ⟨zGd_of (tb := zFn) (pl := zPl_6) rfl pk_6 (List.all_eq_true.mp dk_97) (List.all_eq_true.mp gc_97) (by decide +kernel) (by decide +kernel) (by decide +kernel) zacl, by decide +kernel⟩
set_option maxRecDepth 100000 in
theorem gc_98 : (in_98.all (zci zFn zPl_6 6 mt_98 false)) = true := by decide +kernel
set_option maxRecDepth 100000 in
theorem gd_98 : zGd 0 (6, 7, false, in_98) mt_98 ∧ plainName mt_98.1.cls = true := ⟨zGd_of (tb := zFn) (pl := zPl_6) rfl pk_6 (List.all_eq_true.mp dk_98) (List.all_eq_true.mp gc_98) (by decide +kernel) (by decide +kernel) (by decide +kernel) zacl, by decide +kernel⟩
set_option maxRecDepth 100000 in
theorem gc_99 : (in_99.all (zci zFn zPl_6 6 mt_99 false)) = true := by decide +kernel
set_option maxRecDepth 100000 in
theorem gd_99 : zGd 0 (6, 7, false, in_99) mt_99 ∧ plainName mt_99.1.cls = true := ⟨zGd_of (tb := zFn) (pl := zPl_6) rfl pk_6 (List.all_eq_true.mp dk_99) (List.all_eq_true.mp gc_99) (by decide +kernel) (by decide +kernel) (by decide +kernel) zacl, by decide +kernel⟩
set_option maxRecDepth 100000 in
theorem gc_100 : (in_100.all (zci zFn zPl_6 6 mt_100 false)) = true := by decide +kernel
set_option maxRecDepth 100000 in
theorem gd_100 : zGd 0 (6, 8, false, in_100) mt_100 ∧ plainName mt_100.1.cls = true := ⟨zGd_of (tb := zFn) (pl := zPl_6) rfl pk_6 (List.all_eq_true.mp dk_100) (List.all_eq_true.mp gc_100) (by decide +kernel) (by decide +kernel) (by decide +kernel) zacl, by decide +kernel⟩
set_option maxRecDepth 100000 in
theorem gc_101 : (in_101.all (zci zFn zPl_6 6 mt_101 false)) = true := by decide +kernel
set_option maxRecDepth 100000 in
theorem gd_101 : zGd 0 (6, 7, false, in_101) mt_101 ∧ plainName mt_101.1.cls = true := ⟨zGd_of (tb := zFn) (pl := zPl_6) rfl pk_6 (List.all_eq_true.mp dk_101) (List.all_eq_true.mp gc_101) (by decide +kernel) (by decide +kernel) (by decide +kernel) zacl, by decide +kernel⟩
set_option maxRecDepth 100000 in
theorem gc_102 : (in_102.all (zci zFn zPl_6 6 mt_102 false)) = true := by decide +kernel
set_option maxRecDepth 100000 in
theorem gd_102 : zGd 0 (6, 6, false, in_102) mt_102 ∧ plainName mt_102.1.cls = true := ⟨zGd_of (tb := zFn) (pl := zPl_6) rfl pk_6 (List.all_eq_true.mp dk_102) (List.all_eq_true.mp gc_102) (by decide +kernel) (by decide +kernel) (by decide +kernel) zacl, by decide +kernel⟩
set_option maxRecDepth 100000 in
theorem gc_103 : (in_103.all (zci zFn zPl_6 6 mt_103 false)) = true := by decide +kernel
set_option maxRecDepth 100000 in
theorem gd_103 : zGd 0 (6, 5, false, in_103) mt_103 ∧ plainName mt_103.1.cls = true := ⟨zGd_of (tb := zFn) (pl := zPl_6) rfl pk_6 (List.all_eq_true.mp dk_103) (List.all_eq_true.mp gc_103) (by decide +kernel) (by decide +kernel) (by decide +kernel) zacl, by decide +kernel⟩
set_option maxRecDepth 100000 in
theorem gc_104 : (in_104.all (zci zFn zPl_6 6 mt_104 false)) = true := by decide +kernel
set_option maxRecDepth 100000 in
theorem gd_104 : zGd 0 (6, 6, false, in_104) mt_104 ∧ plainName mt_104.1.cls = true := ⟨zGd_of (tb := zFn) (pl := zPl_6) rfl pk_6 (List.all_eq_true.mp dk_104) (List.all_eq_true.mp gc_104) (by decide +kernel) (by decide +kernel) (by decide +kernel) zacl, by decide +kernel⟩
set_option maxRecDepth 100000 in
theorem gc_105 : (in_105.all (zci zFn zPl_6 6 mt_105 false)) = true := by decide +kernel
set_option maxRecDepth 100000 in
theorem gd_105 : zGd 0 (6, 8, false, in_105) mt_105 ∧ plainName mt_105.1.cls = true := ⟨zGd_of (tb := zFn) (pl := zPl_6) rfl pk_6 (List.all_eq_true.mp dk_105) (List.all_eq_true.mp gc_105) (by decide +kernel) (by decide +kernel) (by decide +kernel) zacl, by decide +kernel⟩
set_option maxRecDepth 100000 in
theorem gc_106 : (in_106.all (zci zFn zPl_6 6 mt_106 false)) = true := by decide +kernel
set_option maxRecDepth 100000 in
theorem gd_106 : zGd 0 (6, 7, false, in_106) mt_106 ∧ plainName mt_106.1.cls = true := ⟨zGd_of (tb := zFn) (pl := zPl_6) rfl pk_6 (List.all_eq_true.mp dk_106) (List.all_eq_true.mp gc_106) (by decide +kernel) (by decide +kernel) (by decide +kernel) zacl, by decide +kernel⟩
set_option maxRecDepth 100000 in
theorem gc_107 : (in_107.all (zci zFn zPl_6 6 mt_107 false)) = true := by decide +kernel
set_option maxRecDepth 100000 in
theorem gd_107 : zGd 0 (6, 9, false, in_107) mt_107 ∧ plainName mt_107.1.cls = true := ⟨zGd_of (tb := zFn) (pl := zPl_6) rfl pk_6 (List.all_eq_true.mp dk_107) (List.all_eq_true.mp gc_107) (by decide +kernel) (by decide +kernel) (by decide +kernel) zacl, by decide +kernel⟩
set_option maxRecDepth 100000 in
theorem gc_108 : (in_108.all (zci zFn zPl_6 6 mt_108 false)) = true := by decide +kernel
set_option maxRecDepth 100000 in
theorem gd_108 : zGd 0 (6, 6, false, in_108) mt_108 ∧ plainName mt_108.1.cls = true := ⟨zGd_of (tb := zFn) (pl := zPl_6) rfl pk_6 (List.all_eq_true.mp dk_108) (List.all_eq_true.mp gc_108) (by decide +kernel) (by decide +kernel) (by decide +kernel) zacl, by decide +kernel⟩
set_option maxRecDepth 100000 in
theorem gc_109 : (in_109.all (zci zFn zPl_6 6 mt_109 false)) = true := by decide +kernel
set_option maxRecDepth 100000 in
theorem gd_109 : zGd 0 (6, 5, false, in_109) mt_109 ∧ plainName mt_109.1.cls = true := ⟨zGd_of (tb := zFn) (pl := zPl_6) rfl pk_6 (List.all_eq_true.mp dk_109) (List.all_eq_true.mp gc_109) (by decide +kernel) (by decide +kernel) (by decide +kernel) zacl, by decide +kernel⟩
set_option maxRecDepth 100000 in
theorem gc_110 : (in_110.all (zci zFn zPl_6 6 mt_110 true)) = true := by decide +kernel
set_option maxRecDepth 100000 in
theorem gd_110 : zGd 0 (6, 5, true, in_110) mt_110 ∧ plainName mt_110.1.cls = true := ⟨zGd_of (tb := zFn) (pl := zPl_6) rfl pk_6 (List.all_eq_true.mp dk_110) (List.all_eq_true.mp gc_110) (by decide +kernel) (by decide +kernel) (by decide +kernel) zacl, by decide +kernel⟩
set_option maxRecDepth 100000 in
theorem gc_111 : (in_111.all (zci zFn zPl_6 6 mt_111 false)) = true := by decide +kernel
set_option maxRecDepth 100000 in
theorem gd_111 : zGd 0 (6, 5, false, in_111) mt_111 ∧ plainName mt_111.1.cls = true := ⟨zGd_of (tb := zFn) (pl := zPl_6) rfl pk_6 (List.all_eq_true.mp dk_111) (List.all_eq_true.mp gc_111) (by decide +kernel) (by decide +kernel) (by decide +kernel) zacl, by decide +kernel⟩
set_option maxRecDepth 100000 in
theorem gc_112 : (in_112.all (zci zFn zPl_6 6 mt_112 false)) = true := by decide +kernel
set_option maxRecDepth 100000 in
theorem gd_112 : zGd 0 (6, 4, false, in_112) mt_112 ∧ plainName mt_112.1.cls = true := ⟨zGd_of (tb := zFn) (pl := zPl_6) rfl pk_6 (List.all_eq_true.mp dk_112) (List.all_eq_true.mp gc_112) (by decide +kernel) (by decide +kernel) (by decide +kernel) zacl, by decide +kernel⟩
set_option maxRecDepth 100000 in
theorem gc_113 : (in_113.all (zci zFn zPl_6 6 mt_113 false)) = true := by decide +kernel
set_option maxRecDepth 100000 in
theorem gd_113 : zGd 0 (6, 6, false, in_113) mt_113 ∧ plainName mt_113.1.cls = true := ⟨zGd_of (tb := zFn) (pl := zPl_6) rfl pk_6 (List.all_eq_true.mp dk_113) (List.all_eq_true.mp gc_113) (by decide +kernel) (by decide +kernel) (by decide +kernel) zacl, by decide +kernel⟩
set_option maxRecDepth 100000 in
theorem gc_114 : (in_114.all (zci zFn zPl_6 6 mt_114 false)) = true := by decide +kernel
set_option maxRecDepth 100000 in
theorem gd_114 : zGd 0 (6, 5, false, in_114) mt_114 ∧ plainName mt_114.1.cls = true := ⟨zGd_of (tb := zFn) (pl := zPl_6) rfl pk_6 (List.all_eq_true.mp dk_114) (List.all_eq_true.mp gc_114) (by decide +kernel) (by decide +kernel) (by decide +kernel) zacl, by decide +kernel⟩
set_option maxRecDepth 100000 in
theorem gc_115 : (in_115.all (zci zFn zPl_6 6 mt_115 false)) = true := by decide +kernel
set_option maxRecDepth 100000 in
theorem gd_115 : zGd 0 (6, 7, false, in_115) mt_115 ∧ plainName mt_115.1.cls = true := ⟨zGd_of (tb := zFn) (pl := zPl_6) rfl pk_6 (List.all_eq_true.mp dk_115) (List.all_eq_true.mp gc_115) (by decide +kernel) (by decide +kernel) (by decide +kernel) zacl, by decide +kernel⟩
set_option maxRecDepth 100000 in
theorem gc_116 : (in_116.all (zci zFn zPl_6 6 mt_116 false)) = true := by decide +kernel
set_option maxRecDepth 100000 in
theorem gd_116 : zGd 0 (6, 5, false, in_116) mt_116 ∧ plainName mt_116.1.cls = true := ⟨zGd_of (tb := zFn) (pl := zPl_6) rfl pk_6 (List.all_eq_true.mp dk_116) (List.all_eq_true.mp gc_116) (by decide +kernel) (by decide +kernel) (by decide +kernel) zacl, by decide +kernel⟩
set_option maxRecDepth 100000 in
theorem gc_117 : (in_117.all (zci zFn zPl_6 6 mt_117 false)) = true := by decide +kernel
set_option maxRecDepth 100000 in
theorem gd_117 : zGd 0 (6, 8, false, in_117) mt_117 ∧ plainName mt_117.1.cls = true := ⟨zGd_of (tb := zFn) (pl := zPl_6) rfl pk_6 (List.all_eq_true.mp dk_117) (List.all_eq_true.mp gc_117) (by decide +kernel) (by decide +kernel) (by decide +kernel) zacl, by decide +kernel⟩
set_option maxRecDepth 100000 in
theorem gc_118 : (in_118.all (zci zFn zPl_6 6 mt_118 false)) = true := by decide +kernel
set_option maxRecDepth 100000 in
theorem gd_118 : zGd 0 (6, 4, false, in_118) mt_118 ∧ plainName mt_118.1.cls = true := ⟨zGd_of (tb := zFn) (pl := zPl_6) rfl pk_6 (List.all_eq_true.mp dk_118) (List.all_eq_true.mp gc_118) (by decide +kernel) (by decide +kernel) (by decide +kernel) zacl, by decide +kernel⟩
set_option maxRecDepth 100000 in
theorem gc_119 : (in_119.all (zci zFn zPl_6 6 mt_119 false)) = true := by decide +kernel
set_option maxRecDepth 100000 in
theorem gd_119 : zGd 0 (6, 5, false, in_119) mt_119 ∧ plainName mt_119.1.cls = true := ⟨zGd_of (tb := zFn) (pl := zPl_6) rfl pk_6 (List.all_eq_true.mp dk_119) (List.all_eq_true.mp gc_119) (by decide +kernel) (by decide +kernel) (by decide +kernel) zacl, by decide +kernel⟩
set_option maxRecDepth 100000 in
theorem gc_120 : (in_120.all (zci zFn zPl_6 6 mt_120 true)) = true := by decide +kernel
set_option maxRecDepth 100000 in
theorem gd_120 : zGd 0 (6, 4, true, in_120) mt_120 ∧ plainName mt_120.1.cls = true := ⟨zGd_of (tb := zFn) (pl := zPl_6) rfl pk_6 (List.all_eq_true.mp dk_120) (List.all_eq_true.mp gc_120) (by decide +kernel) (by decide +kernel) (by decide +kernel) zacl, by decide +kernel⟩
set_option maxRecDepth 100000 in
theorem gc_121 : (in_121.all (zci zFn zPl_6 6 mt_121 false)) = true := by decide +kernel
set_option maxRecDepth 100000 in
theorem gd_121 : zGd 0 (6, 8, false, in_121) mt_121 ∧ plainName mt_121.1.cls = true := ⟨zGd_of (tb := zFn) (pl := zPl_6) rfl pk_6 (List.all_eq_true.mp dk_121) (List.all_eq_true.mp gc_121) (by decide +kernel) (by decide +kernel) (by decide +kernel) zacl, by decide +kernel⟩
set_option maxRecDepth 100000 in
theorem gc_122 : (in_122.all (zci zFn zPl_6 6 mt_122 false)) = true := by decide +kernel
set_option maxRecDepth 100000 in
theorem gd_122 : zGd 0 (6, 7, false, in_122) mt_122 ∧ plainName mt_122.1.cls = true := ⟨zGd_of (tb := zFn) (pl := zPl_6) rfl pk_6 (List.all_eq_true.mp dk_122) (List.all_eq_true.mp gc_122) (by decide +kernel) (by decide +kernel) (by decide +kernel) zacl, by decide +kernel⟩
set_option maxRecDepth 100000 in
theorem gc_123 : (in_123.all (zci zFn zPl_7 7 mt_123 false)) = true := by decide +kernel
set_option maxRecDepth 100000 in
theorem gd_123 : zGd 0 (7, 1, false, in_123) mt_123 ∧ plainName mt_123.1.cls = true := ⟨zGd_of (tb := zFn) (pl := zPl_7) rfl pk_7 (List.all_eq_true.mp dk_123) (List.all_eq_true.mp gc_123) (by decide +kernel) (by decide +kernel) (by decide +kernel) zacl, by decide +kernel⟩
set_option maxRecDepth 100000 in
theorem gc_124 : (in_124.all (zci zFn zPl_7 7 mt_124 false)) = true := by decide +kernel
set_option maxRecDepth 100000 in
theorem gd_124 : zGd 0 (7, 4, false, in_124) mt_124 ∧ plainName mt_124.1.cls = true := ⟨zGd_of (tb := zFn) (pl := zPl_7) rfl pk_7 (List.all_eq_true.mp dk_124) (List.all_eq_true.mp gc_124) (by decide +kernel) (by decide +kernel) (by decide +kernel) zacl, by decide +kernel⟩
set_option maxRecDepth 100000 in
theorem gc_125 : (in_125.all (zci zFn zPl_7 7 mt_125 true)) = true := by decide +kernel
set_option maxRecDepth 100000 in
theorem gd_125 : zGd 0 (7, 6, true, in_125) mt_125 ∧ plainName mt_125.1.cls = true := ⟨zGd_of (tb := zFn) (pl := zPl_7) rfl pk_7 (List.all_eq_true.mp dk_125) (List.all_eq_true.mp gc_125) (by decide +kernel) (by decide +kernel) (by decide +kernel) zacl, by decide +kernel⟩
set_option maxRecDepth 100000 in
theorem gc_126 : (in_126.all (zci zFn zPl_7 7 mt_126 false)) = true := by decide +kernel
set_option maxRecDepth 100000 in
theorem gd_126 : zGd 0 (7, 2, false, in_126) mt_126 ∧ plainName mt_126.1.cls = true := ⟨zGd_of (tb := zFn) (pl := zPl_7) rfl pk_7 (List.all_eq_true.mp dk_126) (List.all_eq_true.mp gc_126) (by decide +kernel) (by decide +kernel) (by decide +kernel) zacl, by decide +kernel⟩
set_option maxRecDepth 100000 in
theorem gc_127 : (in_127.all (zci zFn zPl_7 7 mt_127 false)) = true := by decide +kernel
set_option maxRecDepth 100000 in
theorem gd_127 : zGd 0 (7, 2, false, in_127) mt_127 ∧ plainName mt_127.1.cls = true := ⟨zGd_of (tb := zFn) (pl := zPl_7) rfl pk_7 (List.all_eq_true.mp dk_127) (List.all_eq_true.mp gc_127) (by decide +kernel) (by decide +kernel) (by decide +kernel) zacl, by decide +kernel⟩
set_option maxRecDepth 100000 in
theorem gc_128 : (in_128.all (zci zFn zPl_7 7 mt_128 false)) = true := by decide +kernel
set_option maxRecDepth 100000 in
theorem gd_128 : zGd 0 (7, 2, false, in_128) mt_128 ∧ plainName mt_128.1.cls = true := ⟨zGd_of (tb := zFn) (pl := zPl_7) rfl pk_7 (List.all_eq_true.mp dk_128) (List.all_eq_true.mp gc_128) (by decide +kernel) (by decide +kernel) (by decide +kernel) zacl, by decide +kernel⟩
set_option maxRecDepth 100000 in
theorem gc_129 : (in_129.all (zci zFn zPl_7 7 mt_129 false)) = true := by decide +kernel
set_option maxRecDepth 100000 in
theorem gd_129 : zGd 0 (7, 5, false, in_129) mt_129 ∧ plainName mt_129.1.cls = true := ⟨zGd_of (tb := zFn) (pl := zPl_7) rfl pk_7 (List.all_eq_true.mp dk_129) (List.all_eq_true.mp gc_129) (by decide +kernel) (by decide +kernel) (by decide +kernel) zacl, by decide +kernel⟩
set_option maxRecDepth 100000 in
theorem gc_130 : (in_130.all (zci zFn zPl_7 7 mt_130 false)) = true := by decide +kernel
set_option maxRecDepth 100000 in
theorem gd_130 : zGd 0 (7, 8, false, in_130) mt_130 ∧ plainName mt_130.1.cls = true := ⟨zGd_of (tb := zFn) (pl := zPl_7) rfl pk_7 (List.all_eq_true.mp dk_130) (List.all_eq_true.mp gc_130) (by decide +kernel) (by decide +kernel) (by decide +kernel) zacl, by decide +kernel⟩
set_option maxRecDepth 100000 in
theorem gc_131 : (in_131.all (zci zFn zPl_7 7 mt_131 false)) = true := by decide +kernel
set_option maxRecDepth 100000 in
theorem gd_131 : zGd 0 (7, 7, false, in_131) mt_131 ∧ plainName mt_131.1.cls = true := ⟨zGd_of (tb := zFn) (pl := zPl_7) rfl pk_7 (List.all_eq_true.mp dk_131) (List.all_eq_true.mp gc_131) (by decide +kernel) (by decide +kernel) (by decide +kernel) zacl, by decide +kernel⟩
set_option maxRecDepth 100000 in
theorem gc_132 : (in_132.all (zci zFn zPl_7 7 mt_132 false)) = true := by decide +kernel
set_option maxRecDepth 100000 in
theorem gd_132 : zGd 0 (7, 9, false, in_132) mt_132 ∧ plainName mt_132.1.cls = true := ⟨zGd_of (tb := zFn) (pl := zPl_7) rfl pk_7 (List.all_eq_true.mp dk_132) (List.all_eq_true.mp gc_132) (by decide +kernel) (by decide +kernel) (by decide +kernel) zacl, by decide +kernel⟩
set_option maxRecDepth 100000 in
theorem gc_133 : (in_133.all (zci zFn zPl_7 7 mt_133 false)) = true := by decide +kernel
set_option maxRecDepth 100000 in
theorem gd_133 : zGd 0 (7, 8, false, in_133) mt_133 ∧ plainName mt_133.1.cls = true := ⟨zGd_of (tb := zFn) (pl := zPl_7) rfl pk_7 (List.all_eq_true.mp dk_133) (List.all_eq_true.mp gc_133) (by decide +kernel) (by decide +kernel) (by decide +kernel) zacl, by decide +kernel⟩
set_option maxRecDepth 100000 in
theorem gc_134 : (in_134.all (zci zFn zPl_8 8 mt_134 false)) = true := by decide +kernel
set_option maxRecDepth 100000 in
theorem gd_134 : zGd 0 (8, 1, false, in_134) mt_134 ∧ plainName mt_134.1.cls = true := ⟨zGd_of (tb := zFn) (pl := zPl_8) rfl pk_8 (List.all_eq_true.mp dk_134) (List.all_eq_true.mp gc_134) (by decide +kernel) (by decide +kernel) (by decide +kernel) zacl, by decide +kernel⟩
set_option maxRecDepth 100000 in
theorem gc_135 : (in_135.all (zci zFn zPl_8 8 mt_135 false)) = true := by decide +kernel
set_option maxRecDepth 100000 in
theorem gd_135 : zGd 0 (8, 3, false, in_135) mt_135 ∧ plainName mt_135.1.cls = true := ⟨zGd_of (tb := zFn) (pl := zPl_8) rfl pk_8 (List.all_eq_true.mp dk_135) (List.all_eq_true.mp gc_135) (by decide +kernel) (by decide +kernel) (by decide +kernel) zacl, by decide +kernel⟩
set_option maxRecDepth 100000 in
theorem gc_136 : (in_136.all (zci zFn zPl_8 8 mt_136 false)) = true := by decide +kernel
set_option maxRecDepth 100000 in
theorem gd_136 : zGd 0 (8, 2, false, in_136) mt_136 ∧ plainName mt_136.1.cls = true := ⟨zGd_of (tb := zFn) (pl := zPl_8) rfl pk_8 (List.all_eq_true.mp dk_136) (List.all_eq_true.mp gc_136) (by decide +kernel) (by decide +kernel) (by decide +kernel) zacl, by decide +kernel⟩
set_option maxRecDepth 100000 in
theorem gc_137 : (in_137.all (zci zFn zPl_9 9 mt_137 false)) = true := by decide +kernel
set_option maxRecDepth 100000 in
theorem gd_137 : zGd 0 (9, 2, false, in_137) mt_137 ∧ plainName mt_137.1.cls = true := ⟨zGd_of (tb := zFn) (pl := zPl_9) rfl pk_9 (List.all_eq_true.mp dk_137) (List.all_eq_true.mp gc_137) (by decide +kernel) (by decide +kernel) (by decide +kernel) zacl, by decide +kernel⟩
set_option maxRecDepth 100000 in
theorem gc_138 : (in_138.all (zci zFn zPl_9 9 mt_138 false)) = true := by decide +kernel
set_option maxRecDepth 100000 in
theorem gd_138 : zGd 0 (9, 3, false, in_138) mt_138 ∧ plainName mt_138.1.cls = true := ⟨zGd_of (tb := zFn) (pl := zPl_9) rfl pk_9 (List.all_eq_true.mp dk_138) (List.all_eq_true.mp gc_138) (by decide +kernel) (by decide +kernel) (by decide +kernel) zacl, by decide +kernel⟩
set_option maxRecDepth 100000 in
theorem gc_139 : (in_139.all (zci zFn zPl_9 9 mt_139 false)) = true := by decide +kernel
set_option maxRecDepth 100000 in
theorem gd_139 : zGd 0 (9, 3, false, in_139) mt_139 ∧ plainName mt_139.1.cls = true := ⟨zGd_of (tb := zFn) (pl := zPl_9) rfl pk_9 (List.all_eq_true.mp dk_139) (List.all_eq_true.mp gc_139) (by decide +kernel) (by decide +kernel) (by decide +kernel) zacl, by decide +kernel⟩
set_option maxRecDepth 100000 in
theorem gc_140 : (in_140.all (zci zFn zPl_9 9 mt_140 false)) = true := by decide +kernel
set_option maxRecDepth 100000 in
theorem gd_140 : zGd 0 (9, 4, false, in_140) mt_140 ∧ plainName mt_140.1.cls = true := ⟨zGd_of (tb := zFn) (pl := zPl_9) rfl pk_9 (List.all_eq_true.mp dk_140) (List.all_eq_true.mp gc_140) (by decide +kernel) (by decide +kernel) (by decide +kernel) zacl, by decide +kernel⟩
set_option maxRecDepth 100000 in
theorem gc_141 : (in_141.all (zci zFn zPl_9 9 mt_141 false)) = true := by decide +kernel
set_option maxRecDepth 100000 in
theorem gd_141 : zGd 0 (9, 2, false, in_141) mt_141 ∧ plainName mt_141.1.cls = true := ⟨zGd_of (tb := zFn) (pl := zPl_9) rfl pk_9 (List.all_eq_true.mp dk_141) (List.all_eq_true.mp gc_141) (by decide +kernel) (by decide +kernel) (by decide +kernel) zacl, by decide +kernel⟩
set_option maxRecDepth 100000 in
theorem gc_142 : (in_142.all (zci zFn zPl_9 9 mt_142 false)) = true := by decide +kernel
set_option maxRecDepth 100000 in
theorem gd_142 : zGd 0 (9, 2, false, in_142) mt_142 ∧ plainName mt_142.1.cls = true := ⟨zGd_of (tb := zFn) (pl := zPl_9) rfl pk_9 (List.all_eq_true.mp dk_142) (List.all_eq_true.mp gc_142) (by decide +kernel) (by decide +kernel) (by decide +kernel) zacl, by decide +kernel⟩
set_option maxRecDepth 100000 in
theorem gc_143 : (in_143.all (zci zFn zPl_9 9 mt_143 false)) = true := by decide +kernel
set_option maxRecDepth 100000 in
theorem gd_143 : zGd 0 (9, 2, false, in_143) mt_143 ∧ plainName mt_143.1.cls = true := ⟨zGd_of (tb := zFn) (pl := zPl_9) rfl pk_9 (List.all_eq_true.mp dk_143) (List.all_eq_true.mp gc_143) (by decide +kernel) (by decide +kernel) (by decide +kernel) zacl, by decide +kernel⟩
set_option maxRecDepth 100000 in
theorem gc_144 : (in_144.all (zci zFn zPl_10 10 mt_144 false)) = true := by decide +kernel
set_option maxRecDepth 100000 in
theorem gd_144 : zGd 0 (10, 1, false, in_144) mt_144 ∧ plainName mt_144.1.cls = true := ⟨zGd_of (tb := zFn) (pl := zPl_10) rfl pk_10 (List.all_eq_true.mp dk_144) (List.all_eq_true.mp gc_144) (by decide +kernel) (by decide +kernel) (by decide +kernel) zacl, by decide +kernel⟩
set_option maxRecDepth 100000 in
theorem gc_145 : (in_145.all (zci zFn zPl_10 10 mt_145 false)) = true := by decide +kernel
set_option maxRecDepth 100000 in
theorem gd_145 : zGd 0 (10, 2, false, in_145) mt_145 ∧ plainName mt_145.1.cls = true := ⟨zGd_of (tb := zFn) (pl := zPl_10) rfl pk_10 (List.all_eq_true.mp dk_145) (List.all_eq_true.mp gc_145) (by decide +kernel) (by decide +kernel) (by decide +kernel) zacl, by decide +kernel⟩
set_option maxRecDepth 100000 in
theorem gc_146 : (in_146.all (zci zFn zPl_10 10 mt_146 false)) = true := by decide +kernel
set_option maxRecDepth 100000 in
theorem gd_146 : zGd 0 (10, 6, false, in_146) mt_146 ∧ plainName mt_146.1.cls = true := ⟨zGd_of (tb := zFn) (pl := zPl_10) rfl pk_10 (List.all_eq_true.mp dk_146) (List.all_eq_true.mp gc_146) (by decide +kernel) (by decide +kernel) (by decide +kernel) zacl, by decide +kernel⟩
set_option maxRecDepth 100000 in
theorem gc_147 : (in_147.all (zci zFn zPl_10 10 mt_147 false)) = true := by decide +kernel
set_option maxRecDepth 100000 in
theorem gd_147 : zGd 0 (10, 3, false, in_147) mt_147 ∧ plainName mt_147.1.cls = true := ⟨zGd_of (tb := zFn) (pl := zPl_10) rfl pk_10 (List.all_eq_true.mp dk_147) (List.all_eq_true.mp gc_147) (by decide +kernel) (by decide +kernel) (by decide +kernel) zacl, by decide +kernel⟩
set_option maxRecDepth 100000 in
theorem gc_148 : (in_148.all (zci zFn zPl_10 10 mt_148 false)) = true := by decide +kernel
set_option maxRecDepth 100000 in
theorem gd_148 : zGd 0 (10, 3, false, in_148) mt_148 ∧ plainName mt_148.1.cls = true := ⟨zGd_of (tb := zFn) (pl := zPl_10) rfl pk_10 (List.all_eq_true.mp dk_148) (List.all_eq_true.mp gc_148) (by decide +kernel) (by decide +kernel) (by decide +kernel) zacl, by decide +kernel⟩
set_option maxRecDepth 100000 in
theorem gc_149 : (in_149.all (zci zFn zPl_11 11 mt_149 false)) = true := by decide +kernel
set_option maxRecDepth 100000 in
theorem gd_149 : zGd 0 (11, 1, false, in_149) mt_149 ∧ plainName mt_149.1.cls = true := ⟨zGd_of (tb := zFn) (pl := zPl_11) rfl pk_11 (List.all_eq_true.mp dk_149) (List.all_eq_true.mp gc_149) (by decide +kernel) (by decide +kernel) (by decide +kernel) zacl, by decide +kernel⟩
set_option maxRecDepth 100000 in
theorem gc_150 : (in_150.all (zci zFn zPl_11 11 mt_150 false)) = true := by decide +kernel
set_option maxRecDepth 100000 in
theorem gd_150 : zGd 0 (11, 7, false, in_150) mt_150 ∧ plainName mt_150.1.cls = true := ⟨zGd_of (tb := zFn) (pl := zPl_11) rfl pk_11 (List.all_eq_true.mp dk_150) (List.all_eq_true.mp gc_150) (by decide +kernel) (by decide +kernel) (by decide +kernel) zacl, by decide +kernel⟩
set_option maxRecDepth 100000 in
theorem gc_151 : (in_151.all (zci zFn zPl_11 11 mt_151 false)) = true := by decide +kernel
set_option maxRecDepth 100000 in
theorem gd_151 : zGd 0 (11, 2, false, in_151) mt_151 ∧ plainName mt_151.1.cls = true := ⟨zGd_of (tb := zFn) (pl := zPl_11) rfl pk_11 (List.all_eq_true.mp dk_151) (List.all_eq_true.mp gc_151) (by decide +kernel) (by decide +kernel) (by decide +kernel) zacl, by decide +kernel⟩
set_option maxRecDepth 100000 in
theorem gc_152 : (in_152.all (zci zFn zPl_11 11 mt_152 false)) = true := by decide +kernel
set_option maxRecDepth 100000 in
theorem gd_152 : zGd 0 (11, 4, false, in_152) mt_152 ∧ plainName mt_152.1.cls = true := ⟨zGd_of (tb := zFn) (pl := zPl_11) rfl pk_11 (List.all_eq_true.mp dk_152) (List.all_eq_true.mp gc_152) (by decide +kernel) (by decide +kernel) (by decide +kernel) zacl, by decide +kernel⟩
set_option maxRecDepth 100000 in
theorem gc_153 : (in_153.all (zci zFn zPl_11 11 mt_153 false)) = true := by decide +kernel
set_option maxRecDepth 100000 in
theorem gd_153 : zGd 0 (11, 2, false, in_153) mt_153 ∧ plainName mt_153.1.cls = true := ⟨zGd_of (tb := zFn) (pl := zPl_11) rfl pk_11 (List.all_eq_true.mp dk_153) (List.all_eq_true.mp gc_153) (by decide +kernel) (by decide +kernel) (by decide +kernel) zacl, by decide +kernel⟩
set_option maxRecDepth 100000 in
theorem gc_154 : (in_154.all (zci zFn zPl_11 11 mt_154 false)) = true := by decide +kernel
set_option maxRecDepth 100000 in
theorem gd_154 : zGd 0 (11, 4, false, in_154) mt_154 ∧ plainName mt_154.1.cls = true := ⟨zGd_of (tb := zFn) (pl := zPl_11) rfl pk_11 (List.all_eq_true.mp dk_154) (List.all_eq_true.mp gc_154) (by decide +kernel) (by decide +kernel) (by decide +kernel) zacl, by decide +kernel⟩
set_option maxRecDepth 100000 in
theorem gc_155 : (in_155.all (zci zFn zPl_11 11 mt_155 false)) = true := by decide +kernel
set_option maxRecDepth 100000 in
theorem gd_155 : zGd 0 (11, 8, false, in_155) mt_155 ∧ plainName mt_155.1.cls = true := ⟨zGd_of (tb := zFn) (pl := zPl_11) rfl pk_11 (List.all_eq_true.mp dk_155) (List.all_eq_true.mp gc_155) (by decide +kernel) (by decide +kernel) (by decide +kernel) zacl, by decide +kernel⟩
set_option maxRecDepth 100000 in
theorem gc_156 : (in_156.all (zci zFn zPl_11 11 mt_156 false)) = true := by decide +kernel
set_option maxRecDepth 100000 in
theorem gd_156 : zGd 0 (11, 5, false, in_156) mt_156 ∧ plainName mt_156.1.cls = true := ⟨zGd_of (tb := zFn) (pl := zPl_11) rfl pk_11 (List.all_eq_true.mp dk_156) (List.all_eq_true.mp gc_156) (by decide +kernel) (by decide +kernel) (by decide +kernel) zacl, by decide +kernel⟩
set_option maxRecDepth 100000 in
theorem gc_157 : (in_157.all (zci zFn zPl_11 11 mt_157 false)) = true := by decide +kernel
set_option maxRecDepth 100000 in
theorem gd_157 : zGd 0 (11, 5, false, in_157) mt_157 ∧ plainName mt_157.1.cls = true := ⟨zGd_of (tb := zFn) (pl := zPl_11) rfl pk_11 (List.all_eq_true.mp dk_157) (List.all_eq_true.mp gc_157) (by decide +kernel) (by decide +kernel) (by decide +kernel) zacl, by decide +kernel⟩
set_option maxRecDepth 100000 in
theorem gc_158 : (in_158.all (zci zFn zPl_11 11 mt_158 false)) = true := by decide +kernel
set_option maxRecDepth 100000 in
theorem gd_158 : zGd 0 (11, 7, false, in_158) mt_158 ∧ plainName mt_158.1.cls = true := ⟨zGd_of (tb := zFn) (pl := zPl_11) rfl pk_11 (List.all_eq_true.mp dk_158) (List.all_eq_true.mp gc_158) (by decide +kernel) (by decide +kernel) (by decide +kernel) zacl, by decide +kernel⟩
set_option maxRecDepth 100000 in
theorem gc_159 : (in_159.all (zci zFn zPl_11 11 mt_159 false)) = true := by decide +kernel
set_option maxRecDepth 100000 in
theorem gd_159 : zGd 0 (11, 8, false, in_159) mt_159 ∧ plainName mt_159.1.cls = true := ⟨zGd_of (tb := zFn) (pl := zPl_11) rfl pk_11 (List.all_eq_true.mp dk_159) (List.all_eq_true.mp gc_159) (by decide +kernel) (by decide +kernel) (by decide +kernel) zacl, by decide +kernel⟩
set_option maxRecDepth 100000 in
theorem gc_160 : (in_160.all (zci zFn zPl_11 11 mt_160 false)) = true := by decide +kernel
set_option maxRecDepth 100000 in
theorem gd_160 : zGd 0 (11, 6, false, in_160) mt_160 ∧ plainName mt_160.1.cls = true := ⟨zGd_of (tb := zFn) (pl := zPl_11) rfl pk_11 (List.all_eq_true.mp dk_160) (List.all_eq_true.mp gc_160) (by decide +kernel) (by decide +kernel) (by decide +kernel) zacl, by decide +kernel⟩
set_option maxRecDepth 100000 in
theorem gc_161 : (in_161.all (zci zFn zPl_11 11 mt_161 false)) = true := by decide +kernel
set_option maxRecDepth 100000 in
theorem gd_161 : zGd 0 (11, 6, false, in_161) mt_161 ∧ plainName mt_161.1.cls = true := ⟨zGd_of (tb := zFn) (pl := zPl_11) rfl pk_11 (List.all_eq_true.mp dk_161) (List.all_eq_true.mp gc_161) (by decide +kernel) (by decide +kernel) (by decide +kernel) zacl, by decide +kernel⟩
set_option maxRecDepth 100000 in
theorem gc_162 : (in_162.all (zci zFn zPl_11 11 mt_162 false)) = true := by decide +kernel
set_option maxRecDepth 100000 in
theorem gd_162 : zGd 0 (11, 5, false, in_162) mt_162 ∧ plainName mt_162.1.cls = true := ⟨zGd_of (tb := zFn) (pl := zPl_11) rfl pk_11 (List.all_eq_true.mp dk_162) (List.all_eq_true.mp gc_162) (by decide +kernel) (by decide +kernel) (by decide +kernel) zacl, by decide +kernel⟩
set_option maxRecDepth 100000 in
theorem gc_163 : (in_163.all (zci zFn zPl_11 11 mt_163 false)) = true := by decide +kernel
set_option maxRecDepth 100000 in
theorem gd_163 : zGd 0 (11, 3, false, in_163) mt_163 ∧ plainName mt_163.1.cls = true := ⟨zGd_of (tb := zFn) (pl := zPl_11) rfl pk_11 (List.all_eq_true.mp dk_163) (List.all_eq_true.mp gc_163) (by decide +kernel) (by decide +kernel) (by decide +kernel) zacl, by decide +kernel⟩
set_option maxRecDepth 100000 in
theorem gc_164 : (in_164.all (zci zFn zPl_11 11 mt_164 false)) = true := by decide +kernel
set_option maxRecDepth 100000 in
theorem gd_164 : zGd 0 (11, 5, false, in_164) mt_164 ∧ plainName mt_164.1.cls = true := ⟨zGd_of (tb := zFn) (pl := zPl_11) rfl pk_11 (List.all_eq_true.mp dk_164) (List.all_eq_true.mp gc_164) (by decide +kernel) (by decide +kernel) (by decide +kernel) zacl, by decide +kernel⟩
set_option maxRecDepth 100000 in
theorem gc_165 : (in_165.all (zci zFn zPl_11 11 mt_165 false)) = true := by decide +kernel
set_option maxRecDepth 100000 in
theorem gd_165 : zGd 0 (11, 7, false, in_165) mt_165 ∧ plainName mt_165.1.cls = true := ⟨zGd_of (tb := zFn) (pl := zPl_11) rfl pk_11 (List.all_eq_true.mp dk_165) (List.all_eq_true.mp gc_165) (by decide +kernel) (by decide +kernel) (by decide +kernel) zacl, by decide +kernel⟩
set_option maxRecDepth 100000 in
theorem gc_166 : (in_166.all (zci zFn zPl_11 11 mt_166 false)) = true := by decide +kernel
set_option maxRecDepth 100000 in
theorem gd_166 : zGd 0 (11, 5, false, in_166) mt_166 ∧ plainName mt_166.1.cls = true := ⟨zGd_of (tb := zFn) (pl := zPl_11) rfl pk_11 (List.all_eq_true.mp dk_166) (List.all_eq_true.mp gc_166) (by decide +kernel) (by decide +kernel) (by decide +kernel) zacl, by decide +kernel⟩
set_option maxRecDepth 100000 in
theorem gc_167 : (in_167.all (zci zFn zPl_11 11 mt_167 false)) = true := by decide +kernel
set_option maxRecDepth 100000 in
theorem gd_167 : zGd 0 (11, 6, false, in_167) mt_167 ∧ plainName mt_167.1.cls = true := ⟨zGd_of (tb := zFn) (pl := zPl_11) rfl pk_11 (List.all_eq_true.mp dk_167) (List.all_eq_true.mp gc_167) (by decide +kernel) (by decide +kernel) (by decide +kernel) zacl, by decide +kernel⟩
set_option maxRecDepth 100000 in
theorem gc_168 : (in_168.all (zci zFn zPl_11 11 mt_168 false)) = true := by decide +kernel
set_option maxRecDepth 100000 in
theorem gd_168 : zGd 0 (11, 13, false, in_168) mt_168 ∧ plainName mt_168.1.cls = true := ⟨zGd_of (tb := zFn) (pl := zPl_11) rfl pk_11 (List.all_eq_true.mp dk_168) (List.all_eq_true.mp gc_168) (by decide +kernel) (by decide +kernel) (by decide +kernel) zacl, by decide +kernel⟩
set_option maxRecDepth 100000 in
theorem gc_169 : (in_169.all (zci zFn zPl_11 11 mt_169 false)) = true := by decide +kernel
set_option maxRecDepth 100000 in
theorem gd_169 : zGd 0 (11, 6, false, in_169) mt_169 ∧ plainName mt_169.1.cls = true := ⟨zGd_of (tb := zFn) (pl := zPl_11) rfl pk_11 (List.all_eq_true.mp dk_169) (List.all_eq_true.mp gc_169) (by decide +kernel) (by decide +kernel) (by decide +kernel) zacl, by decide +kernel⟩
set_option maxRecDepth 100000 in
theorem gc_170 : (in_170.all (zci zFn zPl_11 11 mt_170 false)) = true := by decide +kernel
set_option maxRecDepth 100000 in
theorem gd_170 : zGd 0 (11, 7, false, in_170) mt_170 ∧ plainName mt_170.1.cls = true := ⟨zGd_of (tb := zFn) (pl := zPl_11) rfl pk_11 (List.all_eq_true.mp dk_170) (List.all_eq_true.mp gc_170) (by decide +kernel) (by decide +kernel) (by decide +kernel) zacl, by decide +kernel⟩
set_option maxRecDepth 100000 in
theorem gc_171 : (in_171.all (zci zFn zPl_11 11 mt_171 false)) = true := by decide +kernel
set_option maxRecDepth 100000 in
theorem gd_171 : zGd 0 (11, 7, false, in_171) mt_171 ∧ plainName mt_171.1.cls = true := ⟨zGd_of (tb := zFn) (pl := zPl_11) rfl pk_11 (List.all_eq_true.mp dk_171) (List.all_eq_true.mp gc_171) (by decide +kernel) (by decide +kernel) (by decide +kernel) zacl, by decide +kernel⟩
set_option maxRecDepth 100000 in
theorem gc_172 : (in_172.all (zci zFn zPl_11 11 mt_172 false)) = true := by decide +kernel
set_option maxRecDepth 100000 in
theorem gd_172 : zGd 0 (11, 5, false, in_172) mt_172 ∧ plainName mt_172.1.cls = true := ⟨zGd_of (tb := zFn) (pl := zPl_11) rfl pk_11 (List.all_eq_true.mp dk_172) (List.all_eq_true.mp gc_172) (by decide +kernel) (by decide +kernel) (by decide +kernel) zacl, by decide +kernel⟩
set_option maxRecDepth 100000 in
theorem gc_173 : (in_173.all (zci zFn zPl_11 11 mt_173 false)) = true := by decide +kernel
set_option maxRecDepth 100000 in
theorem gd_173 : zGd 0 (11, 6, false, in_173) mt_173 ∧ plainName mt_173.1.cls = true := ⟨zGd_of (tb := zFn) (pl := zPl_11) rfl pk_11 (List.all_eq_true.mp dk_173) (List.all_eq_true.mp gc_173) (by decide +kernel) (by decide +kernel) (by decide +kernel) zacl, by decide +kernel⟩
set_option maxRecDepth 100000 in
theorem gc_174 : (in_174.all (zci zFn zPl_11 11 mt_174 false)) = true := by decide +kernel
set_option maxRecDepth 100000 in
theorem gd_174 : zGd 0 (11, 6, false, in_174) mt_174 ∧ plainName mt_174.1.cls = true := ⟨zGd_of (tb := zFn) (pl := zPl_11) rfl pk_11 (List.all_eq_true.mp dk_174) (List.all_eq_true.mp gc_174) (by decide +kernel) (by decide +kernel) (by decide +kernel) zacl, by decide +kernel⟩
set_option maxRecDepth 100000 in
theorem gc_175 : (in_175.all (zci zFn zPl_11 11 mt_175 false)) = true := by decide +kernel
set_option maxRecDepth 100000 in
theorem gd_175 : zGd 0 (11, 6, false, in_175) mt_175 ∧ plainName mt_175.1.cls = true := ⟨zGd_of (tb := zFn) (pl := zPl_11) rfl pk_11 (List.all_eq_true.mp dk_175) (List.all_eq_true.mp gc_175) (by decide +kernel) (by decide +kernel) (by decide +kernel) zacl, by decide +kernel⟩
set_option maxRecDepth 100000 in
theorem gc_176 : (in_176.all (zci zFn zPl_11 11 mt_176 false)) = true := by decide +kernel
set_option maxRecDepth 100000 in
theorem gd_176 : zGd 0 (11, 6, false, in_176) mt_176 ∧ plainName mt_176.1.cls = true := ⟨zGd_of (tb := zFn) (pl := zPl_11) rfl pk_11 (List.all_eq_true.mp dk_176) (List.all_eq_true.mp gc_176) (by decide +kernel) (by decide +kernel) (by decide +kernel) zacl, by decide +kernel⟩
set_option maxRecDepth 100000 in
theorem gc_177 : (in_177.all (zci zFn zPl_11 11 mt_177 false)) = true := by decide +kernel
set_option maxRecDepth 100000 in
theorem gd_177 : zGd 0 (11, 4, false, in_177) mt_177 ∧ plainName mt_177.1.cls = true := ⟨zGd_of (tb := zFn) (pl := zPl_11) rfl pk_11 (List.all_eq_true.mp dk_177) (List.all_eq_true.mp gc_177) (by decide +kernel) (by decide +kernel) (by decide +kernel) zacl, by decide +kernel⟩
set_option maxRecDepth 100000 in
theorem gc_178 : (in_178.all (zci zFn zPl_11 11 mt_178 false)) = true := by decide +kernel
set_option maxRecDepth 100000 in
theorem gd_178 : zGd 0 (11, 5, false, in_178) mt_178 ∧ plainName mt_178.1.cls = true := ⟨zGd_of (tb := zFn) (pl := zPl_11) rfl pk_11 (List.all_eq_true.mp dk_178) (List.all_eq_true.mp gc_178) (by decide +kernel) (by decide +kernel) (by decide +kernel) zacl, by decide +kernel⟩
set_option maxRecDepth 100000 in
theorem gc_179 : (in_179.all (zci zFn zPl_11 11 mt_179 false)) = true := by decide +kernel
set_option maxRecDepth 100000 in
theorem gd_179 : zGd 0 (11, 5, false, in_179) mt_179 ∧ plainName mt_179.1.cls = true := ⟨zGd_of (tb := zFn) (pl := zPl_11) rfl pk_11 (List.all_eq_true.mp dk_179) (List.all_eq_true.mp gc_179) (by decide +kernel) (by decide +kernel) (by decide +kernel) zacl, by decide +kernel⟩
set_option maxRecDepth 100000 in
theorem gc_180 : (in_180.all (zci zFn zPl_11 11 mt_180 false)) = true := by decide +kernel
set_option maxRecDepth 100000 in
theorem gd_180 : zGd 0 (11, 6, false, in_180) mt_180 ∧ plainName mt_180.1.cls = true := ⟨zGd_of (tb := zFn) (pl := zPl_11) rfl pk_11 (List.all_eq_true.mp dk_180) (List.all_eq_true.mp gc_180) (by decide +kernel) (by decide +kernel) (by decide +kernel) zacl, by decide +kernel⟩
set_option maxRecDepth 100000 in
theorem gc_181 : (in_181.all (zci zFn zPl_11 11 mt_181 false)) = true := by decide +kernel
set_option maxRecDepth 100000 in
theorem gd_181 : zGd 0 (11, 6, false, in_181) mt_181 ∧ plainName mt_181.1.cls = true := ⟨zGd_of (tb := zFn) (pl := zPl_11) rfl pk_11 (List.all_eq_true.mp dk_181) (List.all_eq_true.mp gc_181) (by decide +kernel) (by decide +kernel) (by decide +kernel) zacl, by decide +kernel⟩
set_option maxRecDepth 100000 in
theorem gc_182 : (in_182.all (zci zFn zPl_11 11 mt_182 false)) = true := by decide +kernel
set_option maxRecDepth 100000 in
theorem gd_182 : zGd 0 (11, 10, false, in_182) mt_182 ∧ plainName mt_182.1.cls = true := ⟨zGd_of (tb := zFn) (pl := zPl_11) rfl pk_11 (List.all_eq_true.mp dk_182) (List.all_eq_true.mp gc_182) (by decide +kernel) (by decide +kernel) (by decide +kernel) zacl, by decide +kernel⟩
set_option maxRecDepth 100000 in
theorem gc_183 : (in_183.all (zci zFn zPl_11 11 mt_183 false)) = true := by decide +kernel
set_option maxRecDepth 100000 in
theorem gd_183 : zGd 0 (11, 5, false, in_183) mt_183 ∧ plainName mt_183.1.cls = true := ⟨zGd_of (tb := zFn) (pl := zPl_11) rfl pk_11 (List.all_eq_true.mp dk_183) (List.all_eq_true.mp gc_183) (by decide +kernel) (by decide +kernel) (by decide +kernel) zacl, by decide +kernel⟩
set_option maxRecDepth 100000 in
theorem gc_184 : (in_184.all (zci zFn zPl_11 11 mt_184 false)) = true := by decide +kernel
set_option maxRecDepth 100000 in
theorem gd_184 : zGd 0 (11, 4, false, in_184) mt_184 ∧ plainName mt_184.1.cls = true := ⟨zGd_of (tb := zFn) (pl := zPl_11) rfl pk_11 (List.all_eq_true.mp dk_184) (List.all_eq_true.mp gc_184) (by decide +kernel) (by decide +kernel) (by decide +kernel) zacl, by decide +kernel⟩
set_option maxRecDepth 100000 in
theorem gc_185 : (in_185.all (zci zFn zPl_11 11 mt_185 false)) = true := by decide +kernel
set_option maxRecDepth 100000 in
theorem gd_185 : zGd 0 (11, 6, false, in_185) mt_185 ∧ plainName mt_185.1.cls = true := ⟨zGd_of (tb := zFn) (pl := zPl_11) rfl pk_11 (List.all_eq_true.mp dk_185) (List.all_eq_true.mp gc_185) (by decide +kernel) (by decide +kernel) (by decide +kernel) zacl, by decide +kernel⟩
set_option maxRecDepth 100000 in
theorem gc_186 : (in_186.all (zci zFn zPl_11 11 mt_186 false)) = true := by decide +kernel
set_option maxRecDepth 100000 in
theorem gd_186 : zGd 0 (11, 2, false, in_186) mt_186 ∧ plainName mt_186.1.cls = true := ⟨zGd_of (tb := zFn) (pl := zPl_11) rfl pk_11 (List.all_eq_true.mp dk_186) (List.all_eq_true.mp gc_186) (by decide +kernel) (by decide +kernel) (by decide +kernel) zacl, by decide +kernel⟩
set_option maxRecDepth 100000 in
theorem gc_187 : (in_187.all (zci zFn zPl_11 11 mt_187 true)) = true := by decide +kernel
set_option maxRecDepth 100000 in
theorem gd_187 : zGd 0 (11, 2, true, in_187) mt_187 ∧ plainName mt_187.1.cls = true := ⟨zGd_of (tb := zFn) (pl := zPl_11) rfl pk_11 (List.all_eq_true.mp dk_187) (List.all_eq_true.mp gc_187) (by decide +kernel) (by decide +kernel) (by decide +kernel) zacl, by decide +kernel⟩
set_option maxRecDepth 100000 in
theorem gc_188 : (in_188.all (zci zFn zPl_11 11 mt_188 true)) = true := by decide +kernel
set_option maxRecDepth 100000 in
theorem gd_188 : zGd 0 (11, 2, true, in_188) mt_188 ∧ plainName mt_188.1.cls = true := ⟨zGd_of (tb := zFn) (pl := zPl_11) rfl pk_11 (List.all_eq_true.mp dk_188) (List.all_eq_true.mp gc_188) (by decide +kernel) (by decide +kernel) (by decide +kernel) zacl, by decide +kernel⟩
set_option maxRecDepth 100000 in
theorem gc_189 : (in_189.all (zci zFn zPl_11 11 mt_189 false)) = true := by decide +kernel
set_option maxRecDepth 100000 in
theorem gd_189 : zGd 0 (11, 5, false, in_189) mt_189 ∧ plainName mt_189.1.cls = true := ⟨zGd_of (tb := zFn) (pl := zPl_11) rfl pk_11 (List.all_eq_true.mp dk_189) (List.all_eq_true.mp gc_189) (by decide +kernel) (by decide +kernel) (by decide +kernel) zacl, by decide +kernel⟩
set_option maxRecDepth 100000 in
theorem gc_190 : (in_190.all (zci zFn zPl_11 11 mt_190 true)) = true := by decide +kernel
set_option maxRecDepth 100000 in
theorem gd_190 : zGd 0 (11, 1, true, in_190) mt_190 ∧ plainName mt_190.1.cls = true := ⟨zGd_of (tb := zFn) (pl := zPl_11) rfl pk_11 (List.all_eq_true.mp dk_190) (List.all_eq_true.mp gc_190) (by decide +kernel) (by decide +kernel) (by decide +kernel) zacl, by decide +kernel⟩
set_option maxRecDepth 100000 in
theorem gc_191 : (in_191.all (zci zFn zPl_11 11 mt_191 true)) = true := by decide +kernel
set_option maxRecDepth 100000 in
theorem gd_191 : zGd 0 (11, 1, true, in_191) mt_191 ∧ plainName mt_191.1.cls = true := ⟨zGd_of (tb := zFn) (pl := zPl_11) rfl pk_11 (List.all_eq_true.mp dk_191) (List.all_eq_true.mp gc_191) (by decide +kernel) (by decide +kernel) (by decide +kernel) zacl, by decide +kernel⟩
set_option maxRecDepth 100000 in
theorem gc_192 : (in_192.all (zci zFn zPl_11 11 mt_192 true)) = true := by decide +kernel
set_option maxRecDepth 100000 in
theorem gd_192 : zGd 0 (11, 2, true, in_192) mt_192 ∧ plainName mt_192.1.cls = true := ⟨zGd_of (tb := zFn) (pl := zPl_11) rfl pk_11 (List.all_eq_true.mp dk_192) (List.all_eq_true.mp gc_192) (by decide +kernel) (by decide +kernel) (by decide +kernel) zacl, by decide +kernel⟩
set_option maxRecDepth 100000 in
theorem gc_193 : (in_193.all (zci zFn zPl_11 11 mt_193 false)) = true := by decide +kernel
set_option maxRecDepth 100000 in
theorem gd_193 : zGd 0 (11, 2, false, in_193) mt_193 ∧ plainName mt_193.1.cls = true := ⟨zGd_of (tb := zFn) (pl := zPl_11) rfl pk_11 (List.all_eq_true.mp dk_193) (List.all_eq_true.mp gc_193) (by decide +kernel) (by decide +kernel) (by decide +kernel) zacl, by decide +kernel⟩
set_option maxRecDepth 100000 in
theorem gc_194 : (in_194.all (zci zFn zPl_11 11 mt_194 false)) = true := by decide +kernel
set_option maxRecDepth 100000 in
theorem gd_194 : zGd 0 (11, 1, false, in_194) mt_194 ∧ plainName mt_194.1.cls = true := ⟨zGd_of (tb := zFn) (pl := zPl_11) rfl pk_11 (List.all_eq_true.mp dk_194) (List.all_eq_true.mp gc_194) (by decide +kernel) (by decide +kernel) (by decide +kernel) zacl, by decide +kernel⟩
set_option maxRecDepth 100000 in
theorem gc_195 : (in_195.all (zci zFn zPl_11 11 mt_195 true)) = true := by decide +kernel
set_option maxRecDepth 100000 in
theorem gd_195 : zGd 0 (11, 2, true, in_195) mt_195 ∧ plainName mt_195.1.cls = true := ⟨zGd_of (tb := zFn) (pl := zPl_11) rfl pk_11 (List.all_eq_true.mp dk_195) (List.all_eq_true.mp gc_195) (by decide +kernel) (by decide +kernel) (by decide +kernel) zacl, by decide +kernel⟩
set_option maxRecDepth 100000 in
theorem gc_196 : (in_196.all (zci zFn zPl_11 11 mt_196 false)) = true := by decide +kernel
set_option maxRecDepth 100000 in
theorem gd_196 : zGd 0 (11, 6, false, in_196) mt_196 ∧ plainName mt_196.1.cls = true := ⟨zGd_of (tb := zFn) (pl := zPl_11) rfl pk_11 (List.all_eq_true.mp dk_196) (List.all_eq_true.mp gc_196) (by decide +kernel) (by decide +kernel) (by decide +kernel) zacl, by decide +kernel⟩
set_option maxRecDepth 100000 in
theorem gc_197 : (in_197.all (zci zFn zPl_11 11 mt_197 false)) = true := by decide +kernel
set_option maxRecDepth 100000 in
theorem gd_197 : zGd 0 (11, 5, false, in_197) mt_197 ∧ plainName mt_197.1.cls = true := ⟨zGd_of (tb := zFn) (pl := zPl_11) rfl pk_11 (List.all_eq_true.mp dk_197) (List.all_eq_true.mp gc_197) (by decide +kernel) (by decide +kernel) (by decide +kernel) zacl, by decide +kernel⟩
set_option maxRecDepth 100000 in
theorem gc_198 : (in_198.all (zci zFn zPl_11 11 mt_198 false)) = true := by decide +kernel
set_option maxRecDepth 100000 in
theorem gd_198 : zGd 0 (11, 12, false, in_198) mt_198 ∧ plainName mt_198.1.cls = true := ⟨zGd_of (tb := zFn) (pl := zPl_11) rfl pk_11 (List.all_eq_true.mp dk_198) (List.all_eq_true.mp gc_198) (by decide +kernel) (by decide +kernel) (by decide +kernel) zacl, by decide +kernel⟩
set_option maxRecDepth 100000 in
theorem gc_199 : (in_199.all (zci zFn zPl_12 12 mt_199 false)) = true := by decide +kernel
set_option maxRecDepth 100000 in
theorem gd_199 : zGd 0 (12, 1, false, in_199) mt_199 ∧ plainName mt_199.1.cls = true := ⟨zGd_of (tb := zFn) (pl := zPl_12) rfl pk_12 (List.all_eq_true.mp dk_199) (List.all_eq_true.mp gc_199) (by decide +kernel) (by decide +kernel) (by decide +kernel) zacl, by decide +kernel⟩
set_option maxRecDepth 100000 in
theorem gc_200 : (in_200.all (zci zFn zPl_12 12 mt_200 true)) = true := by decide +kernel
set_option maxRecDepth 100000 in
theorem gd_200 : zGd 0 (12, 3, true, in_200) mt_200 ∧ plainName mt_200.1.cls = true := ⟨zGd_of (tb := zFn) (pl := zPl_12) rfl pk_12 (List.all_eq_true.mp dk_200) (List.all_eq_true.mp gc_200) (by decide +kernel) (by decide +kernel) (by decide +kernel) zacl, by decide +kernel⟩
set_option maxRecDepth 100000 in
theorem gc_201 : (in_201.all (zci zFn zPl_12 12 mt_201 false)) = true := by decide +kernel
set_option maxRecDepth 100000 in
theorem gd_201 : zGd 0 (12, 8, false, in_201) mt_201 ∧ plainName mt_201.1.cls = true := ⟨zGd_of (tb := zFn) (pl := zPl_12) rfl pk_12 (List.all_eq_true.mp dk_201) (List.all_eq_true.mp gc_201) (by decide +kernel) (by decide +kernel) (by decide +kernel) zacl, by decide +kernel⟩
set_option maxRecDepth 100000 in
theorem gc_202 : (in_202.all (zci zFn zPl_12 12 mt_202 false)) = true := by decide +kernel
set_option maxRecDepth 100000 in
theorem gd_202 : zGd 0 (12, 2, false, in_202) mt_202 ∧ plainName mt_202.1.cls = true := ⟨zGd_of (tb := zFn) (pl := zPl_12) rfl pk_12 (List.all_eq_true.mp dk_202) (List.all_eq_true.mp gc_202) (by decide +kernel) (by decide +kernel) (by decide +kernel) zacl, by decide +kernel⟩
set_option maxRecDepth 100000 in
theorem gc_203 : (in_203.all (zci zFn zPl_12 12 mt_203 false)) = true := by decide +kernel
set_option maxRecDepth 100000 in
theorem gd_203 : zGd 0 (12, 2, false, in_203) mt_203 ∧ plainName mt_203.1.cls = true := ⟨zGd_of (tb := zFn) (pl := zPl_12) rfl pk_12 (List.all_eq_true.mp dk_203) (List.all_eq_true.mp gc_203) (by decide +kernel) (by decide +kernel) (by decide +kernel) zacl, by decide +kernel⟩
set_option maxRecDepth 100000 in
theorem gc_204 : (in_204.all (zci zFn zPl_12 12 mt_204 true)) = true := by decide +kernel
set_option maxRecDepth 100000 in
theorem gd_204 : zGd 0 (12, 1, true, in_204) mt_204 ∧ plainName mt_204.1.cls = true := ⟨zGd_of (tb := zFn) (pl := zPl_12) rfl pk_12 (List.all_eq_true.mp dk_204) (List.all_eq_true.mp gc_204) (by decide +kernel) (by decide +kernel) (by decide +kernel) zacl, by decide +kernel⟩
set_option maxRecDepth 100000 in
theorem gc_205 : (in_205.all (zci zFn zPl_12 12 mt_205 true)) = true := by decide +kernel
set_option maxRecDepth 100000 in
theorem gd_205 : zGd 0 (12, 1, true, in_205) mt_205 ∧ plainName mt_205.1.cls = true := ⟨zGd_of (tb := zFn) (pl := zPl_12) rfl pk_12 (List.all_eq_true.mp dk_205) (List.all_eq_true.mp gc_205) (by decide +kernel) (by decide +kernel) (by decide +kernel) zacl, by decide +kernel⟩
set_option maxRecDepth 100000 in
theorem gc_206 : (in_206.all (zci zFn zPl_12 12 mt_206 false)) = true := by decide +kernel
set_option maxRecDepth 100000 in
theorem gd_206 : zGd 0 (12, 4, false, in_206) mt_206 ∧ plainName mt_206.1.cls = true := ⟨zGd_of (tb := zFn) (pl := zPl_12) rfl pk_12 (List.all_eq_true.mp dk_206) (List.all_eq_true.mp gc_206) (by decide +kernel) (by decide +kernel) (by decide +kernel) zacl, by decide +kernel⟩
set_option maxRecDepth 100000 in
theorem gc_207 : (in_207.all (zci zFn zPl_12 12 mt_207 false)) = true := by decide +kernel
set_option maxRecDepth 100000 in
theorem gd_207 : zGd 0 (12, 8, false, in_207) mt_207 ∧ plainName mt_207.1.cls = true := ⟨zGd_of (tb := zFn) (pl := zPl_12) rfl pk_12 (List.all_eq_true.mp dk_207) (List.all_eq_true.mp gc_207) (by decide +kernel) (by decide +kernel) (by decide +kernel) zacl, by decide +kernel⟩
set_option maxRecDepth 100000 in
theorem gc_208 : (in_208.all (zci zFn zPl_12 12 mt_208 false)) = true := by decide +kernel
set_option maxRecDepth 100000 in
theorem gd_208 : zGd 0 (12, 2, false, in_208) mt_208 ∧ plainName mt_208.1.cls = true := ⟨zGd_of (tb := zFn) (pl := zPl_12) rfl pk_12 (List.all_eq_true.mp dk_208) (List.all_eq_true.mp gc_208) (by decide +kernel) (by decide +kernel) (by decide +kernel) zacl, by decide +kernel⟩
set_option maxRecDepth 100000 in
theorem gc_209 : (in_209.all (zci zFn zPl_12 12 mt_209 false)) = true := by decide +kernel
set_option maxRecDepth 100000 in
theorem gd_209 : zGd 0 (12, 4, false, in_209) mt_209 ∧ plainName mt_209.1.cls = true := ⟨zGd_of (tb := zFn) (pl := zPl_12) rfl pk_12 (List.all_eq_true.mp dk_209) (List.all_eq_true.mp gc_209) (by decide +kernel) (by decide +kernel) (by decide +kernel) zacl, by decide +kernel⟩
set_option maxRecDepth 100000 in
theorem gc_210 : (in_210.all (zci zFn zPl_12 12 mt_210 false)) = true := by decide +kernel
set_option maxRecDepth 100000 in
theorem gd_210 : zGd 0 (12, 1, false, in_210) mt_210 ∧ plainName mt_210.1.cls = true := ⟨zGd_of (tb := zFn) (pl := zPl_12) rfl pk_12 (List.all_eq_true.mp dk_210) (List.all_eq_true.mp gc_210) (by decide +kernel) (by decide +kernel) (by decide +kernel) zacl, by decide +kernel⟩
set_option maxRecDepth 100000 in
theorem gc_211 : (in_211.all (zci zFn zPl_12 12 mt_211 false)) = true := by decide +kernel
set_option maxRecDepth 100000 in
theorem gd_211 : zGd 0 (12, 3, false, in_211) mt_211 ∧ plainName mt_211.1.cls = true := ⟨zGd_of (tb := zFn) (pl := zPl_12) rfl pk_12 (List.all_eq_true.mp dk_211) (List.all_eq_true.mp gc_211) (by decide +kernel) (by decide +kernel) (by decide +kernel) zacl, by decide +kernel⟩
set_option maxRecDepth 100000 in
theorem gc_212 : (in_212.all (zci zFn zPl_12 12 mt_212 false)) = true := by decide +kernel
set_option maxRecDepth 100000 in
theorem gd_212 : zGd 0 (12, 4, false, in_212) mt_212 ∧ plainName mt_212.1.cls = true := ⟨zGd_of (tb := zFn) (pl := zPl_12) rfl pk_12 (List.all_eq_true.mp dk_212) (List.all_eq_true.mp gc_212) (by decide +kernel) (by decide +kernel) (by decide +kernel) zacl, by decide +kernel⟩
set_option maxRecDepth 100000 in
theorem gc_213 : (in_213.all (zci zFn zPl_12 12 mt_213 false)) = true := by decide +kernel
set_option maxRecDepth 100000 in
theorem gd_213 : zGd 0 (12, 4, false, in_213) mt_213 ∧ plainName mt_213.1.cls = true := ⟨zGd_of (tb := zFn) (pl := zPl_12) rfl pk_12 (List.all_eq_true.mp dk_213) (List.all_eq_true.mp gc_213) (by decide +kernel) (by decide +kernel) (by decide +kernel) zacl, by decide +kernel⟩
set_option maxRecDepth 100000 in
theorem gc_214 : (in_214.all (zci zFn zPl_12 12 mt_214 false)) = true := by decide +kernel
set_option maxRecDepth 100000 in
theorem gd_214 : zGd 0 (12, 1, false, in_214) mt_214 ∧ plainName mt_214.1.cls = true := ⟨zGd_of (tb := zFn) (pl := zPl_12) rfl pk_12 (List.all_eq_true.mp dk_214) (List.all_eq_true.mp gc_214) (by decide +kernel) (by decide +kernel) (by decide +kernel) zacl, by decide +kernel⟩
set_option maxRecDepth 100000 in
theorem gc_215 : (in_215.all (zci zFn zPl_12 12 mt_215 true)) = true := by decide +kernel
set_option maxRecDepth 100000 in
theorem gd_215 : zGd 0 (12, 2, true, in_215) mt_215 ∧ plainName mt_215.1.cls = true := ⟨zGd_of (tb := zFn) (pl := zPl_12) rfl pk_12 (List.all_eq_true.mp dk_215) (List.all_eq_true.mp gc_215) (by decide +kernel) (by decide +kernel) (by decide +kernel) zacl, by decide +kernel⟩
set_option maxRecDepth 100000 in
theorem gc_216 : (in_216.all (zci zFn zPl_12 12 mt_216 false)) = true := by decide +kernel
set_option maxRecDepth 100000 in
theorem gd_216 : zGd 0 (12, 6, false, in_216) mt_216 ∧ plainName mt_216.1.cls = true := ⟨zGd_of (tb := zFn) (pl := zPl_12) rfl pk_12 (List.all_eq_true.mp dk_216) (List.all_eq_true.mp gc_216) (by decide +kernel) (by decide +kernel) (by decide +kernel) zacl, by decide +kernel⟩
set_option maxRecDepth 100000 in
theorem gc_217 : (in_217.all (zci zFn zPl_12 12 mt_217 false)) = true := by decide +kernel
set_option maxRecDepth 100000 in
theorem gd_217 : zGd 0 (12, 10, false, in_217) mt_217 ∧ plainName mt_217.1.cls = true := ⟨zGd_of (tb := zFn) (pl := zPl_12) rfl pk_12 (List.all_eq_true.mp dk_217) (List.all_eq_true.mp gc_217) (by decide +kernel) (by decide +kernel) (by decide +kernel) zacl, by decide +kernel⟩
set_option maxRecDepth 100000 in
theorem gc_218 : (in_218.all (zci zFn zPl_12 12 mt_218 false)) = true := by decide +kernel
set_option maxRecDepth 100000 in
theorem gd_218 : zGd 0 (12, 4, false, in_218) mt_218 ∧ plainName mt_218.1.cls = true := ⟨zGd_of (tb := zFn) (pl := zPl_12) rfl pk_12 (List.all_eq_true.mp dk_218) (List.all_eq_true.mp gc_218) (by decide +kernel) (by decide +kernel) (by decide +kernel) zacl, by decide +kernel⟩
set_option maxRecDepth 100000 in
theorem gc_219 : (in_219.all (zci zFn zPl_12 12 mt_219 false)) = true := by decide +kernel
set_option maxRecDepth 100000 in
theorem gd_219 : zGd 0 (12, 10, false, in_219) mt_219 ∧ plainName mt_219.1.cls = true := ⟨zGd_of (tb := zFn) (pl := zPl_12) rfl pk_12 (List.all_eq_true.mp dk_219) (List.all_eq_true.mp gc_219) (by decide +kernel) (by decide +kernel) (by decide +kernel) zacl, by decide +kernel⟩
set_option maxRecDepth 100000 in
theorem gc_220 : (in_220.all (zci zFn zPl_12 12 mt_220 false)) = true := by decide +kernel
set_option maxRecDepth 100000 in
theorem gd_220 : zGd 0 (12, 7, false, in_220) mt_220 ∧ plainName mt_220.1.cls = true := ⟨zGd_of (tb := zFn) (pl := zPl_12) rfl pk_12 (List.all_eq_true.mp dk_220) (List.all_eq_true.mp gc_220) (by decide +kernel) (by decide +kernel) (by decide +kernel) zacl, by decide +kernel⟩
set_option maxRecDepth 100000 in
theorem gc_221 : (in_221.all (zci zFn zPl_12 12 mt_221 false)) = true := by decide +kernel
set_option maxRecDepth 100000 in
theorem gd_221 : zGd 0 (12, 2, false, in_221) mt_221 ∧ plainName mt_221.1.cls = true := ⟨zGd_of (tb := zFn) (pl := zPl_12) rfl pk_12 (List.all_eq_true.mp dk_221) (List.all_eq_true.mp gc_221) (by decide +kernel) (by decide +kernel) (by decide +kernel) zacl, by decide +kernel⟩
set_option maxRecDepth 100000 in
theorem gc_222 : (in_222.all (zci zFn zPl_12 12 mt_222 false)) = true := by decide +kernel
set_option maxRecDepth 100000 in
theorem gd_222 : zGd 0 (12, 1, false, in_222) mt_222 ∧ plainName mt_222.1.cls = true := ⟨zGd_of (tb := zFn) (pl := zPl_12) rfl pk_12 (List.all_eq_true.mp dk_222) (List.all_eq_true.mp gc_222) (by decide +kernel) (by decide +kernel) (by decide +kernel) zacl, by decide +kernel⟩
set_option maxRecDepth 100000 in
theorem gc_223 : (in_223.all (zci zFn zPl_12 12 mt_223 true)) = true := by decide +kernel
set_option maxRecDepth 100000 in
theorem gd_223 : zGd 0 (12, 3, true, in_223) mt_223 ∧ plainName mt_223.1.cls = true := ⟨zGd_of (tb := zFn) (pl := zPl_12) rfl pk_12 (List.all_eq_true.mp dk_223) (List.all_eq_true.mp gc_223) (by decide +kernel) (by decide +kernel) (by decide +kernel) zacl, by decide +kernel⟩
set_option maxRecDepth 100000 in
theorem gc_224 : (in_224.all (zci zFn zPl_12 12 mt_224 false)) = true := by decide +kernel
set_option maxRecDepth 100000 in
theorem gd_224 : zGd 0 (12, 5, false, in_224) mt_224 ∧ plainName mt_224.1.cls = true := ⟨zGd_of (tb := zFn) (pl := zPl_12) rfl pk_12 (List.all_eq_true.mp dk_224) (List.all_eq_true.mp gc_224) (by decide +kernel) (by decide +kernel) (by decide +kernel) zacl, by decide +kernel⟩
set_option maxRecDepth 100000 in
theorem gc_225 : (in_225.all (zci zFn zPl_12 12 mt_225 false)) = true := by decide +kernel
set_option maxRecDepth 100000 in
theorem gd_225 : zGd 0 (12, 2, false, in_225) mt_225 ∧ plainName mt_225.1.cls = true := ⟨zGd_of (tb := zFn) (pl := zPl_12) rfl pk_12 (List.all_eq_true.mp dk_225) (List.all_eq_true.mp gc_225) (by decide +kernel) (by decide +kernel) (by decide +kernel) zacl, by decide +kernel⟩
set_option maxRecDepth 100000 in
theorem gc_226 : (in_226.all (zci zFn zPl_12 12 mt_226 true)) = true := by decide +kernel
set_option maxRecDepth 100000 in
theorem gd_226 : zGd 0 (12, 2, true, in_226) mt_226 ∧ plainName mt_226.1.cls = true := ⟨zGd_of (tb := zFn) (pl := zPl_12) rfl pk_12 (List.all_eq_true.mp dk_226) (List.all_eq_true.mp gc_226) (by decide +kernel) (by decide +kernel) (by decide +kernel) zacl, by decide +kernel⟩
set_option maxRecDepth 100000 in
theorem gc_227 : (in_227.all (zci zFn zPl_12 12 mt_227 true)) = true := by decide +kernel
set_option maxRecDepth 100000 in
theorem gd_227 : zGd 0 (12, 2, true, in_227) mt_227 ∧ plainName mt_227.1.cls = true := ⟨zGd_of (tb := zFn) (pl := zPl_12) rfl pk_12 (List.all_eq_true.mp dk_227) (List.all_eq_true.mp gc_227) (by decide +kernel) (by decide +kernel) (by decide +kernel) zacl, by decide +kernel⟩
set_option maxRecDepth 100000 in
theorem gc_228 : (in_228.all (zci zFn zPl_12 12 mt_228 true)) = true := by decide +kernel
set_option maxRecDepth 100000 in
theorem gd_228 : zGd 0 (12, 2, true, in_228) mt_228 ∧ plainName mt_228.1.cls = true := ⟨zGd_of (tb := zFn) (pl := zPl_12) rfl pk_12 (List.all_eq_true.mp dk_228) (List.all_eq_true.mp gc_228) (by decide +kernel) (by decide +kernel) (by decide +kernel) zacl, by decide +kernel⟩
set_option maxRecDepth 100000 in
theorem gc_229 : (in_229.all (zci zFn zPl_12 12 mt_229 true)) = true := by decide +kernel
set_option maxRecDepth 100000 in
theorem gd_229 : zGd 0 (12, 2, true, in_229) mt_229 ∧ plainName mt_229.1.cls = true := ⟨zGd_of (tb := zFn) (pl := zPl_12) rfl pk_12 (List.all_eq_true.mp dk_229) (List.all_eq_true.mp gc_229) (by decide +kernel) (by decide +kernel) (by decide +kernel) zacl, by decide +kernel⟩
set_option maxRecDepth 100000 in
theorem gc_230 : (in_230.all (zci zFn zPl_12 12 mt_230 false)) = true := by decide +kernel
set_option maxRecDepth 100000 in
theorem gd_230 : zGd 0 (12, 2, false, in_230) mt_230 ∧ plainName mt_230.1.cls = true := ⟨zGd_of (tb := zFn) (pl := zPl_12) rfl pk_12 (List.all_eq_true.mp dk_230) (List.all_eq_true.mp gc_230) (by decide +kernel) (by decide +kernel) (by decide +kernel) zacl, by decide +kernel⟩
set_option maxRecDepth 100000 in
theorem gc_231 : (in_231.all (zci zFn zPl_12 12 mt_231 false)) = true := by decide +kernel
set_option maxRecDepth 100000 in
theorem gd_231 : zGd 0 (12, 2, false, in_231) mt_231 ∧ plainName mt_231.1.cls = true := ⟨zGd_of (tb := zFn) (pl := zPl_12) rfl pk_12 (List.all_eq_true.mp dk_231) (List.all_eq_true.mp gc_231) (by decide +kernel) (by decide +kernel) (by decide +kernel) zacl, by decide +kernel⟩
set_option maxRecDepth 100000 in
theorem gc_232 : (in_232.all (zci zFn zPl_12 12 mt_232 false)) = true := by decide +kernel
set_option maxRecDepth 100000 in
theorem gd_232 : zGd 0 (12, 2, false, in_232) mt_232 ∧ plainName mt_232.1.cls = true := ⟨zGd_of (tb := zFn) (pl := zPl_12) rfl pk_12 (List.all_eq_true.mp dk_232) (List.all_eq_true.mp gc_232) (by decide +kernel) (by decide +kernel) (by decide +kernel) zacl, by decide +kernel⟩
set_option maxRecDepth 100000 in
theorem gc_233 : (in_233.all (zci zFn zPl_12 12 mt_233 false)) = true := by decide +kernel
set_option maxRecDepth 100000 in
theorem gd_233 : zGd 0 (12, 2, false, in_233) mt_233 ∧ plainName mt_233.1.cls = true := ⟨zGd_of (tb := zFn) (pl := zPl_12) rfl pk_12 (List.all_eq_true.mp dk_233) (List.all_eq_true.mp gc_233) (by decide +kernel) (by decide +kernel) (by decide +kernel) zacl, by decide +kernel⟩
set_option maxRecDepth 100000 in
theorem gc_234 : (in_234.all (zci zFn zPl_12 12 mt_234 false)) = true := by decide +kernel
set_option maxRecDepth 100000 in
theorem gd_234 : zGd 0 (12, 2, false, in_234) mt_234 ∧ plainName mt_234.1.cls = true := ⟨zGd_of (tb := zFn) (pl := zPl_12) rfl pk_12 (List.all_eq_true.mp dk_234) (List.all_eq_true.mp gc_234) (by decide +kernel) (by decide +kernel) (by decide +kernel) zacl, by decide +kernel⟩
set_option maxRecDepth 100000 in
theorem gc_235 : (in_235.all (zci zFn zPl_12 12 mt_235 false)) = true := by decide +kernel
set_option maxRecDepth 100000 in
theorem gd_235 : zGd 0 (12, 4, false, in_235) mt_235 ∧ plainName mt_235.1.cls = true := ⟨zGd_of (tb := zFn) (pl := zPl_12) rfl pk_12 (List.all_eq_true.mp dk_235) (List.all_eq_true.mp gc_235) (by decide +kernel) (by decide +kernel) (by decide +kernel) zacl, by decide +kernel⟩
set_option maxRecDepth 100000 in
theorem gc_236 : (in_236.all (zci zFn zPl_12 12 mt_236 false)) = true := by decide +kernel
set_option maxRecDepth 100000 in
theorem gd_236 : zGd 0 (12, 2, false, in_236) mt_236 ∧ plainName mt_236.1.cls = true := ⟨zGd_of (tb := zFn) (pl := zPl_12) rfl pk_12 (List.all_eq_true.mp dk_236) (List.all_eq_true.mp gc_236) (by decide +kernel) (by decide +kernel) (by decide +kernel) zacl, by decide +kernel⟩
set_option maxRecDepth 100000 in
theorem gc_237 : (in_237.all (zci zFn zPl_12 12 mt_237 false)) = true := by decide +kernel
set_option maxRecDepth 100000 in
theorem gd_237 : zGd 0 (12, 3, false, in_237) mt_237 ∧ plainName mt_237.1.cls = true := ⟨zGd_of (tb := zFn) (pl := zPl_12) rfl pk_12 (List.all_eq_true.mp dk_237) (List.all_eq_true.mp gc_237) (by decide +kernel) (by decide +kernel) (by decide +kernel) zacl, by decide +kernel⟩
set_option maxRecDepth 100000 in
theorem gc_238 : (in_238.all (zci zFn zPl_12 12 mt_238 false)) = true := by decide +kernel
set_option maxRecDepth 100000 in
theorem gd_238 : zGd 0 (12, 2, false, in_238) mt_238 ∧ plainName mt_238.1.cls = true := ⟨zGd_of (tb := zFn) (pl := zPl_12) rfl pk_12 (List.all_eq_true.mp dk_238) (List.all_eq_true.mp gc_238) (by decide +kernel) (by decide +kernel) (by decide +kernel) zacl, by decide +kernel⟩
set_option maxRecDepth 100000 in
theorem gc_239 : (in_239.all (zci zFn zPl_12 12 mt_239 false)) = true := by decide +kernel
set_option maxRecDepth 100000 in
theorem gd_239 : zGd 0 (12, 3, false, in_239) mt_239 ∧ plainName mt_239.1.cls = true := ⟨zGd_of (tb := zFn) (pl := zPl_12) rfl pk_12 (List.all_eq_true.mp dk_239) (List.all_eq_true.mp gc_239) (by decide +kernel) (by decide +kernel) (by decide +kernel) zacl, by decide +kernel⟩
set_option maxRecDepth 100000 in
theorem gc_240 : (in_240.all (zci zFn zPl_12 12 mt_240 true)) = true := by decide +kernel
set_option maxRecDepth 100000 in
theorem gd_240 : zGd 0 (12, 5, true, in_240) mt_240 ∧ plainName mt_240.1.cls = true := ⟨zGd_of (tb := zFn) (pl := zPl_12) rfl pk_12 (List.all_eq_true.mp dk_240) (List.all_eq_true.mp gc_240) (by decide +kernel) (by decide +kernel) (by decide +kernel) zacl, by decide +kernel⟩
set_option maxRecDepth 100000 in
theorem gc_241 : (in_241.all (zci zFn zPl_12 12 mt_241 false)) = true := by decide +kernel
set_option maxRecDepth 100000 in
theorem gd_241 : zGd 0 (12, 6, false, in_241) mt_241 ∧ plainName mt_241.1.cls = true := ⟨zGd_of (tb := zFn) (pl := zPl_12) rfl pk_12 (List.all_eq_true.mp dk_241) (List.all_eq_true.mp gc_241) (by decide +kernel) (by decide +kernel) (by decide +kernel) zacl, by decide +kernel⟩
set_option maxRecDepth 100000 in
theorem gc_242 : (in_242.all (zci zFn zPl_12 12 mt_242 false)) = true := by decide +kernel
set_option maxRecDepth 100000 in
theorem gd_242 : zGd 0 (12, 5, false, in_242) mt_242 ∧ plainName mt_242.1.cls = true := ⟨zGd_of (tb := zFn) (pl := zPl_12) rfl pk_12 (List.all_eq_true.mp dk_242) (List.all_eq_true.mp gc_242) (by decide +kernel) (by decide +kernel) (by decide +kernel) zacl, by decide +kernel⟩
set_option maxRecDepth 100000 in
theorem gc_243 : (in_243.all (zci zFn zPl_12 12 mt_243 false)) = true := by decide +kernel
set_option maxRecDepth 100000 in
theorem gd_243 : zGd 0 (12, 7, false, in_243) mt_243 ∧ plainName mt_243.1.cls = true := ⟨zGd_of (tb := zFn) (pl := zPl_12) rfl pk_12 (List.all_eq_true.mp dk_243) (List.all_eq_true.mp gc_243) (by decide +kernel) (by decide +kernel) (by decide +kernel) zacl, by decide +kernel⟩
set_option maxRecDepth 100000 in
theorem gc_244 : (in_244.all (zci zFn zPl_12 12 mt_244 false)) = true := by decide +kernel
set_option maxRecDepth 100000 in
theorem gd_244 : zGd 0 (12, 10, false, in_244) mt_244 ∧ plainName mt_244.1.cls = true := ⟨zGd_of (tb := zFn) (pl := zPl_12) rfl pk_12 (List.all_eq_true.mp dk_244) (List.all_eq_true.mp gc_244) (by decide +kernel) (by decide +kernel) (by decide +kernel) zacl, by decide +kernel⟩
set_option maxRecDepth 100000 in
theorem gc_245 : (in_245.all (zci zFn zPl_12 12 mt_245 false)) = true := by decide +kernel
set_option maxRecDepth 100000 in
theorem gd_245 : zGd 0 (12, 5, false, in_245) mt_245 ∧ plainName mt_245.1.cls = true := ⟨zGd_of (tb := zFn) (pl := zPl_12) rfl pk_12 (List.all_eq_true.mp dk_245) (List.all_eq_true.mp gc_245) (by decide +kernel) (by decide +kernel) (by decide +kernel) zacl, by decide +kernel⟩
set_option maxRecDepth 100000 in
theorem gc_246 : (in_246.all (zci zFn zPl_12 12 mt_246 false)) = true := by decide +kernel
set_option maxRecDepth 100000 in
theorem gd_246 : zGd 0 (12, 6, false, in_246) mt_246 ∧ plainName mt_246.1.cls = true := ⟨zGd_of (tb := zFn) (pl := zPl_12) rfl pk_12 (List.all_eq_true.mp dk_246) (List.all_eq_true.mp gc_246) (by decide +kernel) (by decide +kernel) (by decide +kernel) zacl, by decide +kernel⟩
set_option maxRecDepth 100000 in
theorem gc_247 : (in_247.all (zci zFn zPl_12 12 mt_247 true)) = true := by decide +kernel
set_option maxRecDepth 100000 in
theorem gd_247 : zGd 0 (12, 3, true, in_247) mt_247 ∧ plainName mt_247.1.cls = true := ⟨zGd_of (tb := zFn) (pl := zPl_12) rfl pk_12 (List.all_eq_true.mp dk_247) (List.all_eq_true.mp gc_247) (by decide +kernel) (by decide +kernel) (by decide +kernel) zacl, by decide +kernel⟩
set_option maxRecDepth 100000 in
theorem gc_248 : (in_248.all (zci zFn zPl_12 12 mt_248 false)) = true := by decide +kernel
set_option maxRecDepth 100000 in
theorem gd_248 : zGd 0 (12, 9, false, in_248) mt_248 ∧ plainName mt_248.1.cls = true := ⟨zGd_of (tb := zFn) (pl := zPl_12) rfl pk_12 (List.all_eq_true.mp dk_248) (List.all_eq_true.mp gc_248) (by decide +kernel) (by decide +kernel) (by decide +kernel) zacl, by decide +kernel⟩
set_option maxRecDepth 100000 in
theorem gc_249 : (in_249.all (zci zFn zPl_12 12 mt_249 false)) = true := by decide +kernel
set_option maxRecDepth 100000 in
theorem gd_249 : zGd 0 (12, 3, false, in_249) mt_249 ∧ plainName mt_249.1.cls = true := ⟨zGd_of (tb := zFn) (pl := zPl_12) rfl pk_12 (List.all_eq_true.mp dk_249) (List.all_eq_true.mp gc_249) (by decide +kernel) (by decide +kernel) (by decide +kernel) zacl, by decide +kernel⟩
set_option maxRecDepth 100000 in
theorem gc_250 : (in_250.all (zci zFn zPl_12 12 mt_250 false)) = true := by decide +kernel
set_option maxRecDepth 100000 in
theorem gd_250 : zGd 0 (12, 8, false, in_250) mt_250 ∧ plainName mt_250.1.cls = true := ⟨zGd_of (tb := zFn) (pl := zPl_12) rfl pk_12 (List.all_eq_true.mp dk_250) (List.all_eq_true.mp gc_250) (by decide +kernel) (by decide +kernel) (by decide +kernel) zacl, by decide +kernel⟩
set_option maxRecDepth 100000 in
theorem gc_251 : (in_251.all (zci zFn zPl_12 12 mt_251 false)) = true := by decide +kernel
set_option maxRecDepth 100000 in
theorem gd_251 : zGd 0 (12, 5, false, in_251) mt_251 ∧ plainName mt_251.1.cls = true := ⟨zGd_of (tb := zFn) (pl := zPl_12) rfl pk_12 (List.all_eq_true.mp dk_251) (List.all_eq_true.mp gc_251) (by decide +kernel) (by decide +kernel) (by decide +kernel) zacl, by decide +kernel⟩
set_option maxRecDepth 100000 in
theorem gc_252 : (in_252.all (zci zFn zPl_12 12 mt_252 false)) = true := by decide +kernel
set_option maxRecDepth 100000 in
theorem gd_252 : zGd 0 (12, 8, false, in_252) mt_252 ∧ plainName mt_252.1.cls = true := ⟨zGd_of (tb := zFn) (pl := zPl_12) rfl pk_12 (List.all_eq_true.mp dk_252) (List.all_eq_true.mp gc_252) (by decide +kernel) (by decide +kernel) (by decide +kernel) zacl, by decide +kernel⟩
set_option maxRecDepth 100000 in
theorem gc_253 : (in_253.all (zci zFn zPl_12 12 mt_253 false)) = true := by decide +kernel
set_option maxRecDepth 100000 in
theorem gd_253 : zGd 0 (12, 6, false, in_253) mt_253 ∧ plainName mt_253.1.cls = true := ⟨zGd_of (tb := zFn) (pl := zPl_12) rfl pk_12 (List.all_eq_true.mp dk_253) (List.all_eq_true.mp gc_253) (by decide +kernel) (by decide +kernel) (by decide +kernel) zacl, by decide +kernel⟩
set_option maxRecDepth 100000 in
theorem gc_254 : (in_254.all (zci zFn zPl_12 12 mt_254 false)) = true := by decide +kernel
set_option maxRecDepth 100000 in
theorem gd_254 : zGd 0 (12, 7, false, in_254) mt_254 ∧ plainName mt_254.1.cls = true := ⟨zGd_of (tb := zFn) (pl := zPl_12) rfl pk_12 (List.all_eq_true.mp dk_254) (List.all_eq_true.mp gc_254) (by decide +kernel) (by decide +kernel) (by decide +kernel) zacl, by decide +kernel⟩
set_option maxRecDepth 100000 in
theorem gc_255 : (in_255.all (zci zFn zPl_12 12 mt_255 false)) = true := by decide +kernel
set_option maxRecDepth 100000 in
theorem gd_255 : zGd 0 (12, 7, false, in_255) mt_255 ∧ plainName mt_255.1.cls = true := ⟨zGd_of (tb := zFn) (pl := zPl_12) rfl pk_12 (List.all_eq_true.mp dk_255) (List.all_eq_true.mp gc_255) (by decide +kernel) (by decide +kernel) (by decide +kernel) zacl, by decide +kernel⟩
set_option maxRecDepth 100000 in
theorem gc_256 : (in_256.all (zci zFn zPl_12 12 mt_256 false)) = true := by decide +kernel
set_option maxRecDepth 100000 in
theorem gd_256 : zGd 0 (12, 3, false, in_256) mt_256 ∧ plainName mt_256.1.cls = true := ⟨zGd_of (tb := zFn) (pl := zPl_12) rfl pk_12 (List.all_eq_true.mp dk_256) (List.all_eq_true.mp gc_256) (by decide +kernel) (by decide +kernel) (by decide +kernel) zacl, by decide +kernel⟩
set_option maxRecDepth 100000 in
theorem gc_257 : (in_257.all (zci zFn zPl_12 12 mt_257 false)) = true := by decide +kernel
set_option maxRecDepth 100000 in
theorem gd_257 : zGd 0 (12, 6, false, in_257) mt_257 ∧ plainName mt_257.1.cls = true := ⟨zGd_of (tb := zFn) (pl := zPl_12) rfl pk_12 (List.all_eq_true.mp dk_257) (List.all_eq_true.mp gc_257) (by decide +kernel) (by decide +kernel) (by decide +kernel) zacl, by decide +kernel⟩
set_option maxRecDepth 100000 in
theorem gc_258 : (in_258.all (zci zFn zPl_12 12 mt_258 false)) = true := by decide +kernel
set_option maxRecDepth 100000 in
theorem gd_258 : zGd 0 (12, 7, false, in_258) mt_258 ∧ plainName mt_258.1.cls = true := ⟨zGd_of (tb := zFn) (pl := zPl_12) rfl pk_12 (List.all_eq_true.mp dk_258) (List.all_eq_true.mp gc_258) (by decide +kernel) (by decide +kernel) (by decide +kernel) zacl, by decide +kernel⟩
set_option maxRecDepth 100000 in
theorem gc_259 : (in_259.all (zci zFn zPl_12 12 mt_259 false)) = true := by decide +kernel
set_option maxRecDepth 100000 in
theorem gd_259 : zGd 0 (12, 6, false, in_259) mt_259 ∧ plainName mt_259.1.cls = true := ⟨zGd_of (tb := zFn) (pl := zPl_12) rfl pk_12 (List.all_eq_true.mp dk_259) (List.all_eq_true.mp gc_259) (by decide +kernel) (by decide +kernel) (by decide +kernel) zacl, by decide +kernel⟩
set_option maxRecDepth 100000 in
theorem gc_260 : (in_260.all (zci zFn zPl_12 12 mt_260 true)) = true := by decide +kernel
set_option maxRecDepth 100000 in
theorem gd_260 : zGd 0 (12, 5, true, in_260) mt_260 ∧ plainName mt_260.1.cls = true := ⟨zGd_of (tb := zFn) (pl := zPl_12) rfl pk_12 (List.all_eq_true.mp dk_260) (List.all_eq_true.mp gc_260) (by decide +kernel) (by decide +kernel) (by decide +kernel) zacl, by decide +kernel⟩
set_option maxRecDepth 100000 in
theorem gc_261 : (in_261.all (zci zFn zPl_12 12 mt_261 false)) = true := by decide +kernel
set_option maxRecDepth 100000 in
theorem gd_261 : zGd 0 (12, 8, false, in_261) mt_261 ∧ plainName mt_261.1.cls = true := ⟨zGd_of (tb := zFn) (pl := zPl_12) rfl pk_12 (List.all_eq_true.mp dk_261) (List.all_eq_true.mp gc_261) (by decide +kernel) (by decide +kernel) (by decide +kernel) zacl, by decide +kernel⟩
set_option maxRecDepth 100000 in
theorem gc_262 : (in_262.all (zci zFn zPl_12 12 mt_262 false)) = true := by decide +kernel
set_option maxRecDepth 100000 in
theorem gd_262 : zGd 0 (12, 9, false, in_262) mt_262 ∧ plainName mt_262.1.cls = true := ⟨zGd_of (tb := zFn) (pl := zPl_12) rfl pk_12 (List.all_eq_true.mp dk_262) (List.all_eq_true.mp gc_262) (by decide +kernel) (by decide +kernel) (by decide +kernel) zacl, by decide +kernel⟩
set_option maxRecDepth 100000 in
theorem gc_263 : (in_263.all (zci zFn zPl_12 12 mt_263 true)) = true := by decide +kernel
set_option maxRecDepth 100000 in
theorem gd_263 : zGd 0 (12, 6, true, in_263) mt_263 ∧ plainName mt_263.1.cls = true := ⟨zGd_of (tb := zFn) (pl := zPl_12) rfl pk_12 (List.all_eq_true.mp dk_263) (List.all_eq_true.mp gc_263) (by decide +kernel) (by decide +kernel) (by decide +kernel) zacl, by decide +kernel⟩
set_option maxRecDepth 100000 in
theorem gc_264 : (in_264.all (zci zFn zPl_12 12 mt_264 false)) = true := by decide +kernel
set_option maxRecDepth 100000 in
theorem gd_264 : zGd 0 (12, 6, false, in_264) mt_264 ∧ plainName mt_264.1.cls = true := ⟨zGd_of (tb := zFn) (pl := zPl_12) rfl pk_12 (List.all_eq_true.mp dk_264) (List.all_eq_true.mp gc_264) (by decide +kernel) (by decide +kernel) (by decide +kernel) zacl, by decide +kernel⟩
set_option maxRecDepth 100000 in
theorem gc_265 : (in_265.all (zci zFn zPl_12 12 mt_265 true)) = true := by decide +kernel
set_option maxRecDepth 100000 in
theorem gd_265 : zGd 0 (12, 7, true, in_265) mt_265 ∧ plainName mt_265.1.cls = true := ⟨zGd_of (tb := zFn) (pl := zPl_12) rfl pk_12 (List.all_eq_true.mp dk_265) (List.all_eq_true.mp gc_265) (by decide +kernel) (by decide +kernel) (by decide +kernel) zacl, by decide +kernel⟩
set_option maxRecDepth 100000 in
theorem gc_266 : (in_266.all (zci zFn zPl_12 12 mt_266 true)) = true := by decide +kernel
set_option maxRecDepth 100000 in
theorem gd_266 : zGd 0 (12, 6, true, in_266) mt_266 ∧ plainName mt_266.1.cls = true := ⟨zGd_of (tb := zFn) (pl := zPl_12) rfl pk_12 (List.all_eq_true.mp dk_266) (List.all_eq_true.mp gc_266) (by decide +kernel) (by decide +kernel) (by decide +kernel) zacl, by decide +kernel⟩
set_option maxRecDepth 100000 in
theorem gc_267 : (in_267.all (zci zFn zPl_12 12 mt_267 false)) = true := by decide +kernel
set_option maxRecDepth 100000 in
theorem gd_267 : zGd 0 (12, 6, false, in_267) mt_267 ∧ plainName mt_267.1.cls = true := ⟨zGd_of (tb := zFn) (pl := zPl_12) rfl pk_12 (List.all_eq_true.mp dk_267) (List.all_eq_true.mp gc_267) (by decide +kernel) (by decide +kernel) (by decide +kernel) zacl, by decide +kernel⟩
set_option maxRecDepth 100000 in
theorem gc_268 : (in_268.all (zci zFn zPl_12 12 mt_268 false)) = true := by decide +kernel
set_option maxRecDepth 100000 in
theorem gd_268 : zGd 0 (12, 4, false, in_268) mt_268 ∧ plainName mt_268.1.cls = true := ⟨zGd_of (tb := zFn) (pl := zPl_12) rfl pk_12 (List.all_eq_true.mp dk_268) (List.all_eq_true.mp gc_268) (by decide +kernel) (by decide +kernel) (by decide +kernel) zacl, by decide +kernel⟩
set_option maxRecDepth 100000 in
theorem gc_269 : (in_269.all (zci zFn zPl_12 12 mt_269 false)) = true := by decide +kernel
set_option maxRecDepth 100000 in
theorem gd_269 : zGd 0 (12, 4, false, in_269) mt_269 ∧ plainName mt_269.1.cls = true := ⟨zGd_of (tb := zFn) (pl := zPl_12) rfl pk_12 (List.all_eq_true.mp dk_269) (List.all_eq_true.mp gc_269) (by decide +kernel) (by decide +kernel) (by decide +kernel) zacl, by decide +kernel⟩
set_option maxRecDepth 100000 in
theorem gc_270 : (in_270.all (zci zFn zPl_12 12 mt_270 false)) = true := by decide +kernel
set_option maxRecDepth 100000 in
theorem gd_270 : zGd 0 (12, 8, false, in_270) mt_270 ∧ plainName mt_270.1.cls = true := ⟨zGd_of (tb := zFn) (pl := zPl_12) rfl pk_12 (List.all_eq_true.mp dk_270) (List.all_eq_true.mp gc_270) (by decide +kernel) (by decide +kernel) (by decide +kernel) zacl, by decide +kernel⟩
set_option maxRecDepth 100000 in
theorem gc_271 : (in_271.all (zci zFn zPl_12 12 mt_271 true)) = true := by decide +kernel
set_option maxRecDepth 100000 in
theorem gd_271 : zGd 0 (12, 3, true, in_271) mt_271 ∧ plainName mt_271.1.cls = true := ⟨zGd_of (tb := zFn) (pl := zPl_12) rfl pk_12 (List.all_eq_true.mp dk_271) (List.all_eq_true.mp gc_271) (by decide +kernel) (by decide +kernel) (by decide +kernel) zacl, by decide +kernel⟩
set_option maxRecDepth 100000 in
theorem gc_272 : (in_272.all (zci zFn zPl_12 12 mt_272 false)) = true := by decide +kernel
set_option maxRecDepth 100000 in
theorem gd_272 : zGd 0 (12, 8, false, in_272) mt_272 ∧ plainName mt_272.1.cls = true := ⟨zGd_of (tb := zFn) (pl := zPl_12) rfl pk_12 (List.all_eq_true.mp dk_272) (List.all_eq_true.mp gc_272) (by decide +kernel) (by decide +kernel) (by decide +kernel) zacl, by decide +kernel⟩
set_option maxRecDepth 100000 in
theorem gc_273 : (in_273.all (zci zFn zPl_12 12 mt_273 true)) = true := by decide +kernel
set_option maxRecDepth 100000 in
theorem gd_273 : zGd 0 (12, 6, true, in_273) mt_273 ∧ plainName mt_273.1.cls = true := ⟨zGd_of (tb := zFn) (pl := zPl_12) rfl pk_12 (List.all_eq_true.mp dk_273) (List.all_eq_true.mp gc_273) (by decide +kernel) (by decide +kernel) (by decide +kernel) zacl, by decide +kernel⟩
set_option maxRecDepth 100000 in
theorem gc_274 : (in_274.all (zci zFn zPl_12 12 mt_274 false)) = true := by decide +kernel
set_option maxRecDepth 100000 in
theorem gd_274 : zGd 0 (12, 4, false, in_274) mt_274 ∧ plainName mt_274.1.cls = true := ⟨zGd_of (tb := zFn) (pl := zPl_12) rfl pk_12 (List.all_eq_true.mp dk_274) (List.all_eq_true.mp gc_274) (by decide +kernel) (by decide +kernel) (by decide +kernel) zacl, by decide +kernel⟩
set_option maxRecDepth 100000 in
theorem gc_275 : (in_275.all (zci zFn zPl_12 12 mt_275 false)) = true := by decide +kernel
set_option maxRecDepth 100000 in
theorem gd_275 : zGd 0 (12, 6, false, in_275) mt_275 ∧ plainName mt_275.1.cls = true := ⟨zGd_of (tb := zFn) (pl := zPl_12) rfl pk_12 (List.all_eq_true.mp dk_275) (List.all_eq_true.mp gc_275) (by decide +kernel) (by decide +kernel) (by decide +kernel) zacl, by decide +kernel⟩
set_option maxRecDepth 100000 in
theorem gc_276 : (in_276.all (zci zFn zPl_12 12 mt_276 false)) = true := by decide +kernel
set_option maxRecDepth 100000 in
theorem gd_276 : zGd 0 (12, 5, false, in_276) mt_276 ∧ plainName mt_276.1.cls = true := ⟨zGd_of (tb := zFn) (pl := zPl_12) rfl pk_12 (List.all_eq_true.mp dk_276) (List.all_eq_true.mp gc_276) (by decide +kernel) (by decide +kernel) (by decide +kernel) zacl, by decide +kernel⟩
set_option maxRecDepth 100000 in
theorem gc_277 : (in_277.all (zci zFn zPl_12 12 mt_277 false)) = true := by decide +kernel
set_option maxRecDepth 100000 in
theorem gd_277 : zGd 0 (12, 4, false, in_277) mt_277 ∧ plainName mt_277.1.cls = true := ⟨zGd_of (tb := zFn) (pl := zPl_12) rfl pk_12 (List.all_eq_true.mp dk_277) (List.all_eq_true.mp gc_277) (by decide +kernel) (by decide +kernel) (by decide +kernel) zacl, by decide +kernel⟩
set_option maxRecDepth 100000 in
theorem gc_278 : (in_278.all (zci zFn zPl_12 12 mt_278 true)) = true := by decide +kernel
set_option maxRecDepth 100000 in
theorem gd_278 : zGd 0 (12, 4, true, in_278) mt_278 ∧ plainName mt_278.1.cls = true := ⟨zGd_of (tb := zFn) (pl := zPl_12) rfl pk_12 (List.all_eq_true.mp dk_278) (List.all_eq_true.mp gc_278) (by decide +kernel) (by decide +kernel) (by decide +kernel) zacl, by decide +kernel⟩
set_option maxRecDepth 100000 in
theorem gc_279 : (in_279.all (zci zFn zPl_12 12 mt_279 true)) = true := by decide +kernel
set_option maxRecDepth 100000 in
theorem gd_279 : zGd 0 (12, 5, true, in_279) mt_279 ∧ plainName mt_279.1.cls = true := ⟨zGd_of (tb := zFn) (pl := zPl_12) rfl pk_12 (List.all_eq_true.mp dk_279) (List.all_eq_true.mp gc_279) (by decide +kernel) (by decide +kernel) (by decide +kernel) zacl, by decide +kernel⟩
set_option maxRecDepth 100000 in
theorem gc_280 : (in_280.all (zci zFn zPl_12 12 mt_280 false)) = true := by decide +kernel
set_option maxRecDepth 100000 in
theorem gd_280 : zGd 0 (12, 6, false, in_280) mt_280 ∧ plainName mt_280.1.cls = true := ⟨zGd_of (tb := zFn) (pl := zPl_12) rfl pk_12 (List.all_eq_true.mp dk_280) (List.all_eq_true.mp gc_280) (by decide +kernel) (by decide +kernel) (by decide +kernel) zacl, by decide +kernel⟩
set_option maxRecDepth 100000 in
theorem gc_281 : (in_281.all (zci zFn zPl_12 12 mt_281 false)) = true := by decide +kernel
set_option maxRecDepth 100000 in
theorem gd_281 : zGd 0 (12, 7, false, in_281) mt_281 ∧ plainName mt_281.1.cls = true := ⟨zGd_of (tb := zFn) (pl := zPl_12) rfl pk_12 (List.all_eq_true.mp dk_281) (List.all_eq_true.mp gc_281) (by decide +kernel) (by decide +kernel) (by decide +kernel) zacl, by decide +kernel⟩
set_option maxRecDepth 100000 in
theorem gc_282 : (in_282.all (zci zFn zPl_12 12 mt_282 false)) = true := by decide +kernel
set_option maxRecDepth 100000 in
theorem gd_282 : zGd 0 (12, 7, false, in_282) mt_282 ∧ plainName mt_282.1.cls = true := ⟨zGd_of (tb := zFn) (pl := zPl_12) rfl pk_12 (List.all_eq_true.mp dk_282) (List.all_eq_true.mp gc_282) (by decide +kernel) (by decide +kernel) (by decide +kernel) zacl, by decide +kernel⟩
set_option maxRecDepth 100000 in
theorem gc_283 : (in_283.all (zci zFn zPl_12 12 mt_283 false)) = true := by decide +kernel
set_option maxRecDepth 100000 in
theorem gd_283 : zGd 0 (12, 6, false, in_283) mt_283 ∧ plainName mt_283.1.cls = true := ⟨zGd_of (tb := zFn) (pl := zPl_12) rfl pk_12 (List.all_eq_true.mp dk_283) (List.all_eq_true.mp gc_283) (by decide +kernel) (by decide +kernel) (by decide +kernel) zacl, by decide +kernel⟩
set_option maxRecDepth 100000 in
theorem gc_284 : (in_284.all (zci zFn zPl_12 12 mt_284 false)) = true := by decide +kernel
set_option maxRecDepth 100000 in
theorem gd_284 : zGd 0 (12, 7, false, in_284) mt_284 ∧ plainName mt_284.1.cls = true := ⟨zGd_of (tb := zFn) (pl := zPl_12) rfl pk_12 (List.all_eq_true.mp dk_284) (List.all_eq_true.mp gc_284) (by decide +kernel) (by decide +kernel) (by decide +kernel) zacl, by decide +kernel⟩
set_option maxRecDepth 100000 in
theorem gc_285 : (in_285.all (zci zFn zPl_12 12 mt_285 false)) = true := by decide +kernel
set_option maxRecDepth 100000 in
theorem gd_285 : zGd 0 (12, 6, false, in_285) mt_285 ∧ plainName mt_285.1.cls = true := ⟨zGd_of (tb := zFn) (pl := zPl_12) rfl pk_12 (List.all_eq_true.mp dk_285) (List.all_eq_true.mp gc_285) (by decide +kernel) (by decide +kernel) (by decide +kernel) zacl, by decide +kernel⟩
set_option maxRecDepth 100000 in
theorem gc_286 : (in_286.all (zci zFn zPl_12 12 mt_286 true)) = true := by decide +kernel
set_option maxRecDepth 100000 in
theorem gd_286 : zGd 0 (12, 2, true, in_286) mt_286 ∧ plainName mt_286.1.cls = true := ⟨zGd_of (tb := zFn) (pl := zPl_12) rfl pk_12 (List.all_eq_true.mp dk_286) (List.all_eq_true.mp gc_286) (by decide +kernel) (by decide +kernel) (by decide +kernel) zacl, by decide +kernel⟩
set_option maxRecDepth 100000 in
theorem gc_287 : (in_287.all (zci zFn zPl_12 12 mt_287 false)) = true := by decide +kernel
set_option maxRecDepth 100000 in
theorem gd_287 : zGd 0 (12, 4, false, in_287) mt_287 ∧ plainName mt_287.1.cls = true := ⟨zGd_of (tb := zFn) (pl := zPl_12) rfl pk_12 (List.all_eq_true.mp dk_287) (List.all_eq_true.mp gc_287) (by decide +kernel) (by decide +kernel) (by decide +kernel) zacl, by decide +kernel⟩
set_option maxRecDepth 100000 in
theorem gc_288 : (in_288.all (zci zFn zPl_12 12 mt_288 false)) = true := by decide +kernel
set_option maxRecDepth 100000 in
theorem gd_288 : zGd 0 (12, 2, false, in_288) mt_288 ∧ plainName mt_288.1.cls = true := ⟨zGd_of (tb := zFn) (pl := zPl_12) rfl pk_12 (List.all_eq_true.mp dk_288) (List.all_eq_true.mp gc_288) (by decide +kernel) (by decide +kernel) (by decide +kernel) zacl, by decide +kernel⟩
set_option maxRecDepth 100000 in
theorem gc_289 : (in_289.all (zci zFn zPl_12 12 mt_289 true)) = true := by decide +kernel
set_option maxRecDepth 100000 in
theorem gd_289 : zGd 0 (12, 2, true, in_289) mt_289 ∧ plainName mt_289.1.cls = true := ⟨zGd_of (tb := zFn) (pl := zPl_12) rfl pk_12 (List.all_eq_true.mp dk_289) (List.all_eq_true.mp gc_289) (by decide +kernel) (by decide +kernel) (by decide +kernel) zacl, by decide +kernel⟩
set_option maxRecDepth 100000 in
theorem gc_290 : (in_290.all (zci zFn zPl_12 12 mt_290 true)) = true := by decide +kernel
set_option maxRecDepth 100000 in
theorem gd_290 : zGd 0 (12, 2, true, in_290) mt_290 ∧ plainName mt_290.1.cls = true := ⟨zGd_of (tb := zFn) (pl := zPl_12) rfl pk_12 (List.all_eq_true.mp dk_290) (List.all_eq_true.mp gc_290) (by decide +kernel) (by decide +kernel) (by decide +kernel) zacl, by decide +kernel⟩
set_option maxRecDepth 100000 in
theorem gc_291 : (in_291.all (zci zFn zPl_12 12 mt_291 false)) = true := by decide +kernel
set_option maxRecDepth 100000 in
theorem gd_291 : zGd 0 (12, 5, false, in_291) mt_291 ∧ plainName mt_291.1.cls = true := ⟨zGd_of (tb := zFn) (pl := zPl_12) rfl pk_12 (List.all_eq_true.mp dk_291) (List.all_eq_true.mp gc_291) (by decide +kernel) (by decide +kernel) (by decide +kernel) zacl, by decide +kernel⟩
set_option maxRecDepth 100000 in
theorem gc_292 : (in_292.all (zci zFn zPl_12 12 mt_292 true)) = true := by decide +kernel
set_option maxRecDepth 100000 in
theorem gd_292 : zGd 0 (12, 5, true, in_292) mt_292 ∧ plainName mt_292.1.cls = true := ⟨zGd_of (tb := zFn) (pl := zPl_12) rfl pk_12 (List.all_eq_true.mp dk_292) (List.all_eq_true.mp gc_292) (by decide +kernel) (by decide +kernel) (by decide +kernel) zacl, by decide +kernel⟩
set_option maxRecDepth 100000 in
theorem gc_293 : (in_293.all (zci zFn zPl_12 12 mt_293 true)) = true := by decide +kernel
set_option maxRecDepth 100000 in
theorem gd_293 : zGd 0 (12, 8, true, in_293) mt_293 ∧ plainName mt_293.1.cls = true := ⟨zGd_of (tb := zFn) (pl := zPl_12) rfl pk_12 (List.all_eq_true.mp dk_293) (List.all_eq_true.mp gc_293) (by decide +kernel) (by decide +kernel) (by decide +kernel) zacl, by decide +kernel⟩
set_option maxRecDepth 100000 in
theorem gc_294 : (in_294.all (zci zFn zPl_12 12 mt_294 true)) = true := by decide +kernel
set_option maxRecDepth 100000 in
theorem gd_294 : zGd 0 (12, 3, true, in_294) mt_294 ∧ plainName mt_294.1.cls = true := ⟨zGd_of (tb := zFn) (pl := zPl_12) rfl pk_12 (List.all_eq_true.mp dk_294) (List.all_eq_true.mp gc_294) (by decide +kernel) (by decide +kernel) (by decide +kernel) zacl, by decide +kernel⟩
set_option maxRecDepth 100000 in
theorem gc_295 : (in_295.all (zci zFn zPl_12 12 mt_295 true)) = true := by decide +kernel
set_option maxRecDepth 100000 in
theorem gd_295 : zGd 0 (12, 2, true, in_295) mt_295 ∧ plainName mt_295.1.cls = true := ⟨zGd_of (tb := zFn) (pl := zPl_12) rfl pk_12 (List.all_eq_true.mp dk_295) (List.all_eq_true.mp gc_295) (by decide +kernel) (by decide +kernel) (by decide +kernel) zacl, by decide +kernel⟩
set_option maxRecDepth 100000 in
theorem gc_296 : (in_296.all (zci zFn zPl_12 12 mt_296 true)) = true := by decide +kernel
set_option maxRecDepth 100000 in
theorem gd_296 : zGd 0 (12, 7, true, in_296) mt_296 ∧ plainName mt_296.1.cls = true := ⟨zGd_of (tb := zFn) (pl := zPl_12) rfl pk_12 (List.all_eq_true.mp dk_296) (List.all_eq_true.mp gc_296) (by decide +kernel) (by decide +kernel) (by decide +kernel) zacl, by decide +kernel⟩
set_option maxRecDepth 100000 in
theorem gc_297 : (in_297.all (zci zFn zPl_12 12 mt_297 true)) = true := by decide +kernel
set_option maxRecDepth 100000 in
theorem gd_297 : zGd 0 (12, 3, true, in_297) mt_297 ∧ plainName mt_297.1.cls = true := ⟨zGd_of (tb := zFn) (pl := zPl_12) rfl pk_12 (List.all_eq_true.mp dk_297) (List.all_eq_true.mp gc_297) (by decide +kernel) (by decide +kernel) (by decide +kernel) zacl, by decide +kernel⟩
set_option maxRecDepth 100000 in
theorem gc_298 : (in_298.all (zci zFn zPl_12 12 mt_298 false)) = true := by decide +kernel
set_option maxRecDepth 100000 in
theorem gd_298 : zGd 0 (12, 2, false, in_298) mt_298 ∧ plainName mt_298.1.cls = true := ⟨zGd_of (tb := zFn) (pl := zPl_12) rfl pk_12 (List.all_eq_true.mp dk_298) (List.all_eq_true.mp gc_298) (by decide +kernel) (by decide +kernel) (by decide +kernel) zacl, by decide +kernel⟩
set_option maxRecDepth 100000 in
theorem gc_299 : (in_299.all (zci zFn zPl_12 12 mt_299 false)) = true := by decide +kernel
set_option maxRecDepth 100000 in
theorem gd_299 : zGd 0 (12, 3, false, in_299) mt_299 ∧ plainName mt_299.1.cls = true := ⟨zGd_of (tb := zFn) (pl := zPl_12) rfl pk_12 (List.all_eq_true.mp dk_299) (List.all_eq_true.mp gc_299) (by decide +kernel) (by decide +kernel) (by decide +kernel) zacl, by decide +kernel⟩
set_option maxRecDepth 100000 in
theorem gc_300 : (in_300.all (zci zFn zPl_12 12 mt_300 false)) = true := by decide +kernel
set_option maxRecDepth 100000 in
theorem gd_300 : zGd 0 (12, 4, false, in_300) mt_300 ∧ plainName mt_300.1.cls = true := ⟨zGd_of (tb := zFn) (pl := zPl_12) rfl pk_12 (List.all_eq_true.mp dk_300) (List.all_eq_true.mp gc_300) (by decide +kernel) (by decide +kernel) (by decide +kernel) zacl, by decide +kernel⟩
set_option maxRecDepth 100000 in
theorem gc_301 : (in_301.all (zci zFn zPl_12 12 mt_301 false)) = true := by decide +kernel
set_option maxRecDepth 100000 in
theorem gd_301 : zGd 0 (12, 7, false, in_301) mt_301 ∧ plainName mt_301.1.cls = true := ⟨zGd_of (tb := zFn) (pl := zPl_12) rfl pk_12 (List.all_eq_true.mp dk_301) (List.all_eq_true.mp gc_301) (by decide +kernel) (by decide +kernel) (by decide +kernel) zacl, by decide +kernel⟩
set_option maxRecDepth 100000 in
theorem gc_302 : (in_302.all (zci zFn zPl_12 12 mt_302 false)) = true := by decide +kernel
set_option maxRecDepth 100000 in
theorem gd_302 : zGd 0 (12, 3, false, in_302) mt_302 ∧ plainName mt_302.1.cls = true := ⟨zGd_of (tb := zFn) (pl := zPl_12) rfl pk_12 (List.all_eq_true.mp dk_302) (List.all_eq_true.mp gc_302) (by decide +kernel) (by decide +kernel) (by decide +kernel) zacl, by decide +kernel⟩
set_option maxRecDepth 100000 in
theorem gc_303 : (in_303.all (zci zFn zPl_12 12 mt_303 false)) = true := by decide +kernel
set_option maxRecDepth 100000 in
theorem gd_303 : zGd 0 (12, 5, false, in_303) mt_303 ∧ plainName mt_303.1.cls = true := ⟨zGd_of (tb := zFn) (pl := zPl_12) rfl pk_12 (List.all_eq_true.mp dk_303) (List.all_eq_true.mp gc_303) (by decide +kernel) (by decide +kernel) (by decide +kernel) zacl, by decide +kernel⟩
set_option maxRecDepth 100000 in
theorem gc_304 : (in_304.all (zci zFn zPl_12 12 mt_304 true)) = true := by decide +kernel
set_option maxRecDepth 100000 in
theorem gd_304 : zGd 0 (12, 2, true, in_304) mt_304 ∧ plainName mt_304.1.cls = true := ⟨zGd_of (tb := zFn) (pl := zPl_12) rfl pk_12 (List.all_eq_true.mp dk_304) (List.all_eq_true.mp gc_304) (by decide +kernel) (by decide +kernel) (by decide +kernel) zacl, by decide +kernel⟩
set_option maxRecDepth 100000 in
theorem gc_305 : (in_305.all (zci zFn zPl_12 12 mt_305 false)) = true := by decide +kernel
set_option maxRecDepth 100000 in
theorem gd_305 : zGd 0 (12, 4, false, in_305) mt_305 ∧ plainName mt_305.1.cls = true := ⟨zGd_of (tb := zFn) (pl := zPl_12) rfl pk_12 (List.all_eq_true.mp dk_305) (List.all_eq_true.mp gc_305) (by decide +kernel) (by decide +kernel) (by decide +kernel) zacl, by decide +kernel⟩
set_option maxRecDepth 100000 in
theorem gc_306 : (in_306.all (zci zFn zPl_12 12 mt_306 false)) = true := by decide +kernel
set_option maxRecDepth 100000 in
theorem gd_306 : zGd 0 (12, 5, false, in_306) mt_306 ∧ plainName mt_306.1.cls = true := ⟨zGd_of (tb := zFn) (pl := zPl_12) rfl pk_12 (List.all_eq_true.mp dk_306) (List.all_eq_true.mp gc_306) (by decide +kernel) (by decide +kernel) (by decide +kernel) zacl, by decide +kernel⟩
set_option maxRecDepth 100000 in
theorem gc_307 : (in_307.all (zci zFn zPl_12 12 mt_307 true)) = true := by decide +kernel
set_option maxRecDepth 100000 in
theorem gd_307 : zGd 0 (12, 5, true, in_307) mt_307 ∧ plainName mt_307.1.cls = true := ⟨zGd_of (tb := zFn) (pl := zPl_12) rfl pk_12 (List.all_eq_true.mp dk_307) (List.all_eq_true.mp gc_307) (by decide +kernel) (by decide +kernel) (by decide +kernel) zacl, by decide +kernel⟩
set_option maxRecDepth 100000 in
theorem gc_308 : (in_308.all (zci zFn zPl_12 12 mt_308 true)) = true := by decide +kernel
set_option maxRecDepth 100000 in
theorem gd_308 : zGd 0 (12, 3, true, in_308) mt_308 ∧ plainName mt_308.1.cls = true := ⟨zGd_of (tb := zFn) (pl := zPl_12) rfl pk_12 (List.all_eq_true.mp dk_308) (List.all_eq_true.mp gc_308) (by decide +kernel) (by decide +kernel) (by decide +kernel) zacl, by decide +kernel⟩
set_option maxRecDepth 100000 in
theorem gc_309 : (in_309.all (zci zFn zPl_12 12 mt_309 false)) = true := by decide +kernel
set_option maxRecDepth 100000 in
theorem gd_309 : zGd 0 (12, 6, false, in_309) mt_309 ∧ plainName mt_309.1.cls = true := ⟨zGd_of (tb := zFn) (pl := zPl_12) rfl pk_12 (List.all_eq_true.mp dk_309) (List.all_eq_true.mp gc_309) (by decide +kernel) (by decide +kernel) (by decide +kernel) zacl, by decide +kernel⟩
set_option maxRecDepth 100000 in
theorem gc_310 : (in_310.all (zci zFn zPl_12 12 mt_310 false)) = true := by decide +kernel
set_option maxRecDepth 100000 in
theorem gd_310 : zGd 0 (12, 6, false, in_310) mt_310 ∧ plainName mt_310.1.cls = true := ⟨zGd_of (tb := zFn) (pl := zPl_12) rfl pk_12 (List.all_eq_true.mp dk_310) (List.all_eq_true.mp gc_310) (by decide +kernel) (by decide +kernel) (by decide +kernel) zacl, by decide +kernel⟩
set_option maxRecDepth 100000 in
theorem gc_311 : (in_311.all (zci zFn zPl_12 12 mt_311 false)) = true := by decide +kernel
set_option maxRecDepth 100000 in
theorem gd_311 : zGd 0 (12, 3, false, in_311) mt_311 ∧ plainName mt_311.1.cls = true := ⟨zGd_of (tb := zFn) (pl := zPl_12) rfl pk_12 (List.all_eq_true.mp dk_311) (List.all_eq_true.mp gc_311) (by decide +kernel) (by decide +kernel) (by decide +kernel) zacl, by decide +kernel⟩
set_option maxRecDepth 100000 in
theorem gc_312 : (in_312.all (zci zFn zPl_12 12 mt_312 false)) = true := by decide +kernel
set_option maxRecDepth 100000 in
theorem gd_312 : zGd 0 (12, 8, false, in_312) mt_312 ∧ plainName mt_312.1.cls = true := ⟨zGd_of (tb := zFn) (pl := zPl_12) rfl pk_12 (List.all_eq_true.mp dk_312) (List.all_eq_true.mp gc_312) (by decide +kernel) (by decide +kernel) (by decide +kernel) zacl, by decide +kernel⟩
set_option maxRecDepth 100000 in
theorem gc_313 : (in_313.all (zci zFn zPl_12 12 mt_313 false)) = true := by decide +kernel
set_option maxRecDepth 100000 in
theorem gd_313 : zGd 0 (12, 10, false, in_313) mt_313 ∧ plainName mt_313.1.cls = true := ⟨zGd_of (tb := zFn) (pl := zPl_12) rfl pk_12 (List.all_eq_true.mp dk_313) (List.all_eq_true.mp gc_313) (by decide +kernel) (by decide +kernel) (by decide +kernel) zacl, by decide +kernel⟩
set_option maxRecDepth 100000 in
theorem gc_314 : (in_314.all (zci zFn zPl_12 12 mt_314 false)) = true := by decide +kernel
set_option maxRecDepth 100000 in
theorem gd_314 : zGd 0 (12, 6, false, in_314) mt_314 ∧ plainName mt_314.1.cls = true := ⟨zGd_of (tb := zFn) (pl := zPl_12) rfl pk_12 (List.all_eq_true.mp dk_314) (List.all_eq_true.mp gc_314) (by decide +kernel) (by decide +kernel) (by decide +kernel) zacl, by decide +kernel⟩
set_option maxRecDepth 100000 in
theorem gc_315 : (in_315.all (zci zFn zPl_12 12 mt_315 false)) = true := by decide +kernel
set_option maxRecDepth 100000 in
theorem gd_315 : zGd 0 (12, 12, false, in_315) mt_315 ∧ plainName mt_315.1.cls = true := ⟨zGd_of (tb := zFn) (pl := zPl_12) rfl pk_12 (List.all_eq_true.mp dk_315) (List.all_eq_true.mp gc_315) (by decide +kernel) (by decide +kernel) (by decide +kernel) zacl, by decide +kernel⟩
set_option maxRecDepth 100000 in
theorem gc_316 : (in_316.all (zci zFn zPl_12 12 mt_316 false)) = true := by decide +kernel
set_option maxRecDepth 100000 in
theorem gd_316 : zGd 0 (12, 14, false, in_316) mt_316 ∧ plainName mt_316.1.cls = true := ⟨zGd_of (tb := zFn) (pl := zPl_12) rfl pk_12 (List.all_eq_true.mp dk_316) (List.all_eq_true.mp gc_316) (by decide +kernel) (by decide +kernel) (by decide +kernel) zacl, by decide +kernel⟩
set_option maxRecDepth 100000 in
theorem gc_317 : (in_317.all (zci zFn zPl_12 12 mt_317 false)) = true := by decide +kernel
set_option maxRecDepth 100000 in
theorem gd_317 : zGd 0 (12, 2, false, in_317) mt_317 ∧ plainName mt_317.1.cls = true := ⟨zGd_of (tb := zFn) (pl := zPl_12) rfl pk_12 (List.all_eq_true.mp dk_317) (List.all_eq_true.mp gc_317) (by decide +kernel) (by decide +kernel) (by decide +kernel) zacl, by decide +kernel⟩
set_option maxRecDepth 100000 in
theorem gc_318 : (in_318.all (zci zFn zPl_12 12 mt_318 false)) = true := by decide +kernel
set_option maxRecDepth 100000 in
theorem gd_318 : zGd 0 (12, 4, false, in_318) mt_318 ∧ plainName mt_318.1.cls = true := ⟨zGd_of (tb := zFn) (pl := zPl_12) rfl pk_12 (List.all_eq_true.mp dk_318) (List.all_eq_true.mp gc_318) (by decide +kernel) (by decide +kernel) (by decide +kernel) zacl, by decide +kernel⟩
set_option maxRecDepth 100000 in
theorem gc_319 : (in_319.all (zci zFn zPl_12 12 mt_319 false)) = true := by decide +kernel
set_option maxRecDepth 100000 in
theorem gd_319 : zGd 0 (12, 6, false, in_319) mt_319 ∧ plainName mt_319.1.cls = true := ⟨zGd_of (tb := zFn) (pl := zPl_12) rfl pk_12 (List.all_eq_true.mp dk_319) (List.all_eq_true.mp gc_319) (by decide +kernel) (by decide +kernel) (by decide +kernel) zacl, by decide +kernel⟩
set_option maxRecDepth 100000 in
theorem gc_320 : (in_320.all (zci zFn zPl_12 12 mt_320 false)) = true := by decide +kernel
set_option maxRecDepth 100000 in
theorem gd_320 : zGd 0 (12, 2, false, in_320) mt_320 ∧ plainName mt_320.1.cls = true := ⟨zGd_of (tb := zFn) (pl := zPl_12) rfl pk_12 (List.all_eq_true.mp dk_320) (List.all_eq_true.mp gc_320) (by decide +kernel) (by decide +kernel) (by decide +kernel) zacl, by decide +kernel⟩
set_option maxRecDepth 100000 in
theorem gc_321 : (in_321.all (zci zFn zPl_12 12 mt_321 true)) = true := by decide +kernel
set_option maxRecDepth 100000 in
theorem gd_321 : zGd 0 (12, 3, true, in_321) mt_321 ∧ plainName mt_321.1.cls = true := ⟨zGd_of (tb := zFn) (pl := zPl_12) rfl pk_12 (List.all_eq_true.mp dk_321) (List.all_eq_true.mp gc_321) (by decide +kernel) (by decide +kernel) (by decide +kernel) zacl, by decide +kernel⟩
set_option maxRecDepth 100000 in
theorem gc_322 : (in_322.all (zci zFn zPl_12 12 mt_322 true)) = true := by decide +kernel
set_option maxRecDepth 100000 in
theorem gd_322 : zGd 0 (12, 3, true, in_322) mt_322 ∧ plainName mt_322.1.cls = true := ⟨zGd_of (tb := zFn) (pl := zPl_12) rfl pk_12 (List.all_eq_true.mp dk_322) (List.all_eq_true.mp gc_322) (by decide +kernel) (by decide +kernel) (by decide +kernel) zacl, by decide +kernel⟩
set_option maxRecDepth 100000 in
theorem gc_323_0 : (in_323_0.all (zci zFn zPl_13 13 mt_323 true)) = true := by decide +kernel
set_option maxRecDepth 100000 in
theorem gc_323_1 : (in_323_1.all (zci zFn zPl_13 13 mt_323 true)) = true := by decide +kernel
set_option maxRecDepth 100000 in
theorem gc_323_2 : (in_323_2.all (zci zFn zPl_13 13 mt_323 true)) = true := by decide +kernel
set_option maxRecDepth 100000 in
theorem gc_323_3 : (in_323_3.all (zci zFn zPl_13 13 mt_323 true)) = true := by decide +kernel
set_option maxRecDepth 100000 in
theorem gc_323_4 : (in_323_4.all (zci zFn zPl_13 13 mt_323 true)) = true := by decide +kernel
set_option maxRecDepth 100000 in
theorem gc_323_5 : (in_323_5.all (zci zFn zPl_13 13 mt_323 true)) = true := by decide +kernel
set_option maxRecDepth 100000 in
theorem gc_323_6 : (in_323_6.all (zci zFn zPl_13 13 mt_323 true)) = true := by decide +kernel
set_option maxRecDepth 100000 in
theorem gc_323_7 : (in_323_7.all (zci zFn zPl_13 13 mt_323 true)) = true := by decide +kernel
set_option maxRecDepth 100000 in
theorem gc_323_8 : (in_323_8.all (zci zFn zPl_13 13 mt_323 true)) = true := by decide +kernel
set_option maxRecDepth 100000 in
theorem gc_323_9 : (in_323_9.all (zci zFn zPl_13 13 mt_323 true)) = true := by decide +kernel
set_option maxRecDepth 100000 in
theorem gc_323_10 : (in_323_10.all (zci zFn zPl_13 13 mt_323 true)) = true := by decide +kernel
set_option maxRecDepth 100000 in
theorem gc_323_11 : (in_323_11.all (zci zFn zPl_13 13 mt_323 true)) = true := by decide +kernel
set_option maxRecDepth 100000 in
theorem gc_323_12 : (in_323_12.all (zci zFn zPl_13 13 mt_323 true)) = true := by decide +kernel
set_option maxRecDepth 100000 in
theorem gc_323_13 : (in_323_13.all (zci zFn zPl_13 13 mt_323 true)) = true := by decide +kernel
set_option maxRecDepth 100000 in
theorem gc_323_14 : (in_323_14.all (zci zFn zPl_13 13 mt_323 true)) = true := by decide +kernel
set_option maxRecDepth 100000 in
theorem gc_323_15 : (in_323_15.all (zci zFn zPl_13 13 mt_323 true)) = true := by decide +kernel
set_option maxRecDepth 100000 in
theorem gc_323_16 : (in_323_16.all (zci zFn zPl_13 13 mt_323 true)) = true := by decide +kernel
set_option maxRecDepth 100000 in
theorem gc_323_17 : (in_323_17.all (zci zFn zPl_13 13 mt_323 true)) = true := by decide +kernel
set_option maxRecDepth 100000 in
theorem gc_323_18 : (in_323_18.all (zci zFn zPl_13 13 mt_323 true)) = true := by decide +kernel
set_option maxRecDepth 100000 in
theorem gc_323_19 : (in_323_19.all (zci zFn zPl_13 13 mt_323 true)) = true := by decide +kernel
set_option maxRecDepth 100000 in
theorem gc_323_20 : (in_323_20.all (zci zFn zPl_13 13 mt_323 true)) = true := by decide +kernel
set_option maxRecDepth 100000 in
theorem gc_323 : (in_323.all (zci zFn zPl_13 13 mt_323 true)) = true := by
  unfold in_323
  simp only [List.all_append, gc_323_0, gc_323_1, gc_323_2, gc_323_3, gc_323_4, gc_323_5, gc_323_6, gc_323_7, gc_323_8, gc_323_9, gc_323_10, gc_323_11, gc_323_12, gc_323_13, gc_323_14, gc_323_15, gc_323_16, gc_323_17, gc_323_18, gc_323_19, gc_323_20, Bool.and_self]
set_option maxRecDepth 100000 in
theorem gd_323 : zGd 0 (13, 4, true, in_323) mt_323 ∧ plainName mt_323.1.cls = true := ⟨zGd_of (tb := zFn) (pl := zPl_13) rfl pk_13 (List.all_eq_true.mp dk_323) (List.all_eq_true.mp gc_323) (by decide +kernel) (by decide +kernel) (by decide +kernel) zacl, by decide +kernel⟩
set_option maxRecDepth 100000 in
theorem gc_324 : (in_324.all (zci zFn zPl_14 14 mt_324 false)) = true := by decide +kernel
set_option maxRecDepth 100000 in
theorem gd_324 : zGd 0 (14, 4, false, in_324) mt_324 ∧ plainName mt_324.1.cls = true := ⟨zGd_of (tb := zFn) (pl := zPl_14) rfl pk_14 (List.all_eq_true.mp dk_324) (List.all_eq_true.mp gc_324) (by decide +kernel) (by decide +kernel) (by decide +kernel) zacl, by decide +kernel⟩
set_option maxRecDepth 100000 in
theorem gc_325 : (in_325.all (zci zFn zPl_15 15 mt_325 false)) = true := by decide +kernel
set_option maxRecDepth 100000 in
theorem gd_325 : zGd 0 (15, 1, false, in_325) mt_325 ∧ plainName mt_325.1.cls = true := ⟨zGd_of (tb := zFn) (pl := zPl_15) rfl pk_15 (List.all_eq_true.mp dk_325) (List.all_eq_true.mp gc_325) (by decide +kernel) (by decide +kernel) (by decide +kernel) zacl, by decide +kernel⟩
