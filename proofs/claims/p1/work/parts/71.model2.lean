/-! ===== the model's constructor, second half (printed by wip/p1/gen/p64.py) ===== -/
def D_Model_39 (n : Nat) : List dE := D_Model_38 n ++ [dA 0 48]
theorem D_Model_39_len {n : Nat} : (D_Model_39 n).length = 39 := by rw [D_Model_39, List.length_append, D_Model_38_len]; rfl
def X_Model_41 (n : Nat) : List dV := (X_Model_40 n).set 50 (4, n + 38)
theorem X_Model_41_len {n : Nat} : (X_Model_41 n).length = 82 := by rw [X_Model_41, List.length_set, X_Model_40_len]
def D_Model_40 (n : Nat) : List dE := D_Model_39 n ++ [dA 1 48]
theorem D_Model_40_len {n : Nat} : (D_Model_40 n).length = 40 := by rw [D_Model_40, List.length_append, D_Model_39_len]; rfl
def X_Model_42 (n : Nat) : List dV := (X_Model_41 n).set 51 (4, n + 39)
theorem X_Model_42_len {n : Nat} : (X_Model_42 n).length = 82 := by rw [X_Model_42, List.length_set, X_Model_41_len]
def D_Model_41 (n : Nat) : List dE := D_Model_40 n ++ [dA 0 48]
theorem D_Model_41_len {n : Nat} : (D_Model_41 n).length = 41 := by rw [D_Model_41, List.length_append, D_Model_40_len]; rfl
def X_Model_43 (n : Nat) : List dV := (X_Model_42 n).set 52 (4, n + 40)
theorem X_Model_43_len {n : Nat} : (X_Model_43 n).length = 82 := by rw [X_Model_43, List.length_set, X_Model_42_len]
def D_Model_42 (n : Nat) : List dE := D_Model_41 n ++ [dA 0 48]
theorem D_Model_42_len {n : Nat} : (D_Model_42 n).length = 42 := by rw [D_Model_42, List.length_append, D_Model_41_len]; rfl
def X_Model_44 (n : Nat) : List dV := (X_Model_43 n).set 53 (4, n + 41)
theorem X_Model_44_len {n : Nat} : (X_Model_44 n).length = 82 := by rw [X_Model_44, List.length_set, X_Model_43_len]
def D_Model_43 (n : Nat) : List dE := D_Model_42 n ++ [dA 0 48]
theorem D_Model_43_len {n : Nat} : (D_Model_43 n).length = 43 := by rw [D_Model_43, List.length_append, D_Model_42_len]; rfl
def X_Model_45 (n : Nat) : List dV := (X_Model_44 n).set 54 (4, n + 42)
theorem X_Model_45_len {n : Nat} : (X_Model_45 n).length = 82 := by rw [X_Model_45, List.length_set, X_Model_44_len]
def D_Model_44 (n : Nat) : List dE := D_Model_43 n ++ [dA 0 192]
theorem D_Model_44_len {n : Nat} : (D_Model_44 n).length = 44 := by rw [D_Model_44, List.length_append, D_Model_43_len]; rfl
def X_Model_46 (n : Nat) : List dV := (X_Model_45 n).set 55 (4, n + 43)
theorem X_Model_46_len {n : Nat} : (X_Model_46 n).length = 82 := by rw [X_Model_46, List.length_set, X_Model_45_len]
def D_Model_45 (n : Nat) : List dE := D_Model_44 n ++ [dA 0 192]
theorem D_Model_45_len {n : Nat} : (D_Model_45 n).length = 45 := by rw [D_Model_45, List.length_append, D_Model_44_len]; rfl
def X_Model_47 (n : Nat) : List dV := (X_Model_46 n).set 56 (4, n + 44)
theorem X_Model_47_len {n : Nat} : (X_Model_47 n).length = 82 := by rw [X_Model_47, List.length_set, X_Model_46_len]
def D_Model_46 (n : Nat) : List dE := D_Model_45 n ++ [dA 0 120]
theorem D_Model_46_len {n : Nat} : (D_Model_46 n).length = 46 := by rw [D_Model_46, List.length_append, D_Model_45_len]; rfl
def X_Model_48 (n : Nat) : List dV := (X_Model_47 n).set 57 (4, n + 45)
theorem X_Model_48_len {n : Nat} : (X_Model_48 n).length = 82 := by rw [X_Model_48, List.length_set, X_Model_47_len]
def D_Model_47 (n : Nat) : List dE := D_Model_46 n ++ [dA 0 120]
theorem D_Model_47_len {n : Nat} : (D_Model_47 n).length = 47 := by rw [D_Model_47, List.length_append, D_Model_46_len]; rfl
def X_Model_49 (n : Nat) : List dV := (X_Model_48 n).set 58 (4, n + 46)
theorem X_Model_49_len {n : Nat} : (X_Model_49 n).length = 82 := by rw [X_Model_49, List.length_set, X_Model_48_len]
def D_Model_48 (n : Nat) : List dE := D_Model_47 n ++ [dA 0 7200]
theorem D_Model_48_len {n : Nat} : (D_Model_48 n).length = 48 := by rw [D_Model_48, List.length_append, D_Model_47_len]; rfl
def X_Model_50 (n : Nat) : List dV := (X_Model_49 n).set 59 (4, n + 47)
theorem X_Model_50_len {n : Nat} : (X_Model_50 n).length = 82 := by rw [X_Model_50, List.length_set, X_Model_49_len]
def D_Model_49 (n : Nat) : List dE := D_Model_48 n ++ [dA 0 120]
theorem D_Model_49_len {n : Nat} : (D_Model_49 n).length = 49 := by rw [D_Model_49, List.length_append, D_Model_48_len]; rfl
def X_Model_51 (n : Nat) : List dV := (X_Model_50 n).set 60 (4, n + 48)
theorem X_Model_51_len {n : Nat} : (X_Model_51 n).length = 82 := by rw [X_Model_51, List.length_set, X_Model_50_len]
def D_Model_50 (n : Nat) : List dE := D_Model_49 n ++ [dA 0 120]
theorem D_Model_50_len {n : Nat} : (D_Model_50 n).length = 50 := by rw [D_Model_50, List.length_append, D_Model_49_len]; rfl
def X_Model_52 (n : Nat) : List dV := (X_Model_51 n).set 61 (4, n + 49)
theorem X_Model_52_len {n : Nat} : (X_Model_52 n).length = 82 := by rw [X_Model_52, List.length_set, X_Model_51_len]
def D_Model_51 (n : Nat) : List dE := D_Model_50 n ++ [dA 0 120]
theorem D_Model_51_len {n : Nat} : (D_Model_51 n).length = 51 := by rw [D_Model_51, List.length_append, D_Model_50_len]; rfl
def X_Model_53 (n : Nat) : List dV := (X_Model_52 n).set 62 (4, n + 50)
theorem X_Model_53_len {n : Nat} : (X_Model_53 n).length = 82 := by rw [X_Model_53, List.length_set, X_Model_52_len]
def D_Model_52 (n : Nat) : List dE := D_Model_51 n ++ [dA 0 120]
theorem D_Model_52_len {n : Nat} : (D_Model_52 n).length = 52 := by rw [D_Model_52, List.length_append, D_Model_51_len]; rfl
def X_Model_54 (n : Nat) : List dV := (X_Model_53 n).set 63 (4, n + 51)
theorem X_Model_54_len {n : Nat} : (X_Model_54 n).length = 82 := by rw [X_Model_54, List.length_set, X_Model_53_len]
def D_Model_53 (n : Nat) : List dE := D_Model_52 n ++ [dA 3 120]
theorem D_Model_53_len {n : Nat} : (D_Model_53 n).length = 53 := by rw [D_Model_53, List.length_append, D_Model_52_len]; rfl
def X_Model_55 (n : Nat) : List dV := (X_Model_54 n).set 64 (4, n + 52)
theorem X_Model_55_len {n : Nat} : (X_Model_55 n).length = 82 := by rw [X_Model_55, List.length_set, X_Model_54_len]
def D_Model_54 (n : Nat) : List dE := D_Model_53 n ++ [dA 1 120]
theorem D_Model_54_len {n : Nat} : (D_Model_54 n).length = 54 := by rw [D_Model_54, List.length_append, D_Model_53_len]; rfl
def X_Model_56 (n : Nat) : List dV := (X_Model_55 n).set 65 (4, n + 53)
theorem X_Model_56_len {n : Nat} : (X_Model_56 n).length = 82 := by rw [X_Model_56, List.length_set, X_Model_55_len]
def D_Model_55 (n : Nat) : List dE := D_Model_54 n ++ [dA 1 120]
theorem D_Model_55_len {n : Nat} : (D_Model_55 n).length = 55 := by rw [D_Model_55, List.length_append, D_Model_54_len]; rfl
def X_Model_57 (n : Nat) : List dV := (X_Model_56 n).set 66 (4, n + 54)
theorem X_Model_57_len {n : Nat} : (X_Model_57 n).length = 82 := by rw [X_Model_57, List.length_set, X_Model_56_len]
def D_Model_56 (n : Nat) : List dE := D_Model_55 n ++ [dA 1 120]
theorem D_Model_56_len {n : Nat} : (D_Model_56 n).length = 56 := by rw [D_Model_56, List.length_append, D_Model_55_len]; rfl
def X_Model_58 (n : Nat) : List dV := (X_Model_57 n).set 67 (4, n + 55)
theorem X_Model_58_len {n : Nat} : (X_Model_58 n).length = 82 := by rw [X_Model_58, List.length_set, X_Model_57_len]
def D_Model_57 (n : Nat) : List dE := D_Model_56 n ++ [dA 1 120]
theorem D_Model_57_len {n : Nat} : (D_Model_57 n).length = 57 := by rw [D_Model_57, List.length_append, D_Model_56_len]; rfl
def X_Model_59 (n : Nat) : List dV := (X_Model_58 n).set 68 (4, n + 56)
theorem X_Model_59_len {n : Nat} : (X_Model_59 n).length = 82 := by rw [X_Model_59, List.length_set, X_Model_58_len]
def D_Model_58 (n : Nat) : List dE := D_Model_57 n ++ [dA 1 120]
theorem D_Model_58_len {n : Nat} : (D_Model_58 n).length = 58 := by rw [D_Model_58, List.length_append, D_Model_57_len]; rfl
def X_Model_60 (n : Nat) : List dV := (X_Model_59 n).set 69 (4, n + 57)
theorem X_Model_60_len {n : Nat} : (X_Model_60 n).length = 82 := by rw [X_Model_60, List.length_set, X_Model_59_len]
def D_Model_59 (n : Nat) : List dE := D_Model_58 n ++ [dA 0 3]
theorem D_Model_59_len {n : Nat} : (D_Model_59 n).length = 59 := by rw [D_Model_59, List.length_append, D_Model_58_len]; rfl
def X_Model_61 (n : Nat) : List dV := (X_Model_60 n).set 70 (4, n + 58)
theorem X_Model_61_len {n : Nat} : (X_Model_61 n).length = 82 := by rw [X_Model_61, List.length_set, X_Model_60_len]
def D_Model_60 (n : Nat) : List dE := D_Model_59 n ++ [dA 0 3]
theorem D_Model_60_len {n : Nat} : (D_Model_60 n).length = 60 := by rw [D_Model_60, List.length_append, D_Model_59_len]; rfl
def X_Model_62 (n : Nat) : List dV := (X_Model_61 n).set 71 (4, n + 59)
theorem X_Model_62_len {n : Nat} : (X_Model_62 n).length = 82 := by rw [X_Model_62, List.length_set, X_Model_61_len]
def D_Model_61 (n : Nat) : List dE := D_Model_60 n ++ [dA 0 3]
theorem D_Model_61_len {n : Nat} : (D_Model_61 n).length = 61 := by rw [D_Model_61, List.length_append, D_Model_60_len]; rfl
def X_Model_63 (n : Nat) : List dV := (X_Model_62 n).set 72 (4, n + 60)
theorem X_Model_63_len {n : Nat} : (X_Model_63 n).length = 82 := by rw [X_Model_63, List.length_set, X_Model_62_len]
def D_Model_62 (n : Nat) : List dE := D_Model_61 n ++ [dA 3 1600]
theorem D_Model_62_len {n : Nat} : (D_Model_62 n).length = 62 := by rw [D_Model_62, List.length_append, D_Model_61_len]; rfl
def X_Model_64 (n : Nat) : List dV := (X_Model_63 n).set 73 (4, n + 61)
theorem X_Model_64_len {n : Nat} : (X_Model_64 n).length = 82 := by rw [X_Model_64, List.length_set, X_Model_63_len]
def D_Model_63 (n : Nat) : List dE := D_Model_62 n ++ [dA 1 200]
theorem D_Model_63_len {n : Nat} : (D_Model_63 n).length = 63 := by rw [D_Model_63, List.length_append, D_Model_62_len]; rfl
def X_Model_65 (n : Nat) : List dV := (X_Model_64 n).set 77 (4, n + 62)
theorem X_Model_65_len {n : Nat} : (X_Model_65 n).length = 82 := by rw [X_Model_65, List.length_set, X_Model_64_len]
def D_Model_64 (n : Nat) : List dE := D_Model_63 n ++ [dA 0 16000]
theorem D_Model_64_len {n : Nat} : (D_Model_64 n).length = 64 := by rw [D_Model_64, List.length_append, D_Model_63_len]; rfl
def X_Model_66 (n : Nat) : List dV := (X_Model_65 n).set 78 (4, n + 63)
theorem X_Model_66_len {n : Nat} : (X_Model_66 n).length = 82 := by rw [X_Model_66, List.length_set, X_Model_65_len]
def D_Model_65 (n : Nat) : List dE := D_Model_64 n ++ [dA 0 240]
theorem D_Model_65_len {n : Nat} : (D_Model_65 n).length = 65 := by rw [D_Model_65, List.length_append, D_Model_64_len]; rfl
def X_Model_67 (n : Nat) : List dV := (X_Model_66 n).set 81 (4, n + 64)
theorem X_Model_67_len {n : Nat} : (X_Model_67 n).length = 82 := by rw [X_Model_67, List.length_set, X_Model_66_len]
section
variable {p : Program} {l : Launch} {e : Env} {s : State} {m : MethodId} {args : Array Value} {below : List Frame} {meth : Method} {c : Code} {Q : State → Prop} {cx : zX} {n t : Nat} {f : Nat → va_E}
theorem v_Model_4 (I : b_In cx prog_14_method_1_code 1 RX12 p s m args meth c) (ht : t < n) {H : Heap} {locs : List Loc} {ls : Array Slot} (hl : lv_has ls 1 [(0, .ref (b_a cx t))]) (hB : x_W cx n t f (D_Model_38 n) 12 (X_Model_40 n) H) (hS : va_S (z_A cx) s.heap H locs)
    (kk : ∀ (H : Heap) (locs : List Loc), x_W cx n t f (D_Model_48 n) 12 (X_Model_50 n) H → va_S (z_A cx) s.heap H locs → W p l e (b_rm 1 13 65 41825) s m args below meth c H locs 48 22576 Q (F0 m 408 ls [])) : W p l e (b_rm 1 13 65 41825) s m args below meth c H locs 38 14512 Q (F0 m 325 ls []) := by
  have hx := I.1
  have hb := I.2.1
  refine lv_aload_n hx hb (show decode prog_14_method_1_code 325 = .ok (.aload_n 0, 1) by decide +kernel) rfl (lv_at hl 0 rfl) ?_
  refine lv_bipush hx hb (show decode prog_14_method_1_code 326 = .ok (.bipush (48), 2) by decide +kernel) (v := nI 48) (by decide +kernel) ?_
  refine x_newa I hS hB ht D_Model_38_len (atype := .int) (zw (by decide +kernel) rfl) 0 rfl (fun C h => by cases h) 48 (fun cA => rfl) (by decide +kernel) (by decide +kernel) (by decide) (Nat.le_of_ble_eq_true rfl) (Nat.le_of_ble_eq_true rfl) (show decode prog_14_method_1_code 328 = .ok (.newarray .int, 2) by decide +kernel) (fun H hB hS => ?_)
  have hB : x_W cx n t f (D_Model_39 n) 12 (X_Model_40 n) H := hB
  refine x_put I hS hB ht rfl 50 (by decide) (index := 133) (zw (by decide +kernel) rfl) rfl (ty := .array (.int)) (4, n + 38) rfl (by decide +kernel) rfl rfl (by rw [X_Model_40_len]; decide) (show decode prog_14_method_1_code 330 = .ok (.putfield 133, 3) by decide +kernel) (fun H locs hB hS => ?_)
  have hB : x_W cx n t f (D_Model_39 n) 12 (X_Model_41 n) H := hB
  refine lv_aload_n hx hb (show decode prog_14_method_1_code 333 = .ok (.aload_n 0, 1) by decide +kernel) rfl (lv_at hl 0 rfl) ?_
  refine lv_bipush hx hb (show decode prog_14_method_1_code 334 = .ok (.bipush (48), 2) by decide +kernel) (v := nI 48) (by decide +kernel) ?_
  refine x_newa I hS hB ht D_Model_39_len (atype := .long) (zw (by decide +kernel) rfl) 1 rfl (fun C h => by cases h) 48 (fun cA => rfl) (by decide +kernel) (by decide +kernel) (by decide) (Nat.le_of_ble_eq_true rfl) (Nat.le_of_ble_eq_true rfl) (show decode prog_14_method_1_code 336 = .ok (.newarray .long, 2) by decide +kernel) (fun H hB hS => ?_)
  have hB : x_W cx n t f (D_Model_40 n) 12 (X_Model_41 n) H := hB
  refine x_put I hS hB ht rfl 51 (by decide) (index := 136) (zw (by decide +kernel) rfl) rfl (ty := .array (.long)) (4, n + 39) rfl (by decide +kernel) rfl rfl (by rw [X_Model_41_len]; decide) (show decode prog_14_method_1_code 338 = .ok (.putfield 136, 3) by decide +kernel) (fun H locs hB hS => ?_)
  have hB : x_W cx n t f (D_Model_40 n) 12 (X_Model_42 n) H := hB
  refine lv_aload_n hx hb (show decode prog_14_method_1_code 341 = .ok (.aload_n 0, 1) by decide +kernel) rfl (lv_at hl 0 rfl) ?_
  refine lv_bipush hx hb (show decode prog_14_method_1_code 342 = .ok (.bipush (48), 2) by decide +kernel) (v := nI 48) (by decide +kernel) ?_
  refine x_newa I hS hB ht D_Model_40_len (atype := .int) (zw (by decide +kernel) rfl) 0 rfl (fun C h => by cases h) 48 (fun cA => rfl) (by decide +kernel) (by decide +kernel) (by decide) (Nat.le_of_ble_eq_true rfl) (Nat.le_of_ble_eq_true rfl) (show decode prog_14_method_1_code 344 = .ok (.newarray .int, 2) by decide +kernel) (fun H hB hS => ?_)
  have hB : x_W cx n t f (D_Model_41 n) 12 (X_Model_42 n) H := hB
  refine x_put I hS hB ht rfl 52 (by decide) (index := 139) (zw (by decide +kernel) rfl) rfl (ty := .array (.int)) (4, n + 40) rfl (by decide +kernel) rfl rfl (by rw [X_Model_42_len]; decide) (show decode prog_14_method_1_code 346 = .ok (.putfield 139, 3) by decide +kernel) (fun H locs hB hS => ?_)
  have hB : x_W cx n t f (D_Model_41 n) 12 (X_Model_43 n) H := hB
  refine lv_aload_n hx hb (show decode prog_14_method_1_code 349 = .ok (.aload_n 0, 1) by decide +kernel) rfl (lv_at hl 0 rfl) ?_
  refine lv_bipush hx hb (show decode prog_14_method_1_code 350 = .ok (.bipush (48), 2) by decide +kernel) (v := nI 48) (by decide +kernel) ?_
  refine x_newa I hS hB ht D_Model_41_len (atype := .int) (zw (by decide +kernel) rfl) 0 rfl (fun C h => by cases h) 48 (fun cA => rfl) (by decide +kernel) (by decide +kernel) (by decide) (Nat.le_of_ble_eq_true rfl) (Nat.le_of_ble_eq_true rfl) (show decode prog_14_method_1_code 352 = .ok (.newarray .int, 2) by decide +kernel) (fun H hB hS => ?_)
  have hB : x_W cx n t f (D_Model_42 n) 12 (X_Model_43 n) H := hB
  refine x_put I hS hB ht rfl 53 (by decide) (index := 142) (zw (by decide +kernel) rfl) rfl (ty := .array (.int)) (4, n + 41) rfl (by decide +kernel) rfl rfl (by rw [X_Model_43_len]; decide) (show decode prog_14_method_1_code 354 = .ok (.putfield 142, 3) by decide +kernel) (fun H locs hB hS => ?_)
  have hB : x_W cx n t f (D_Model_42 n) 12 (X_Model_44 n) H := hB
  refine lv_aload_n hx hb (show decode prog_14_method_1_code 357 = .ok (.aload_n 0, 1) by decide +kernel) rfl (lv_at hl 0 rfl) ?_
  refine lv_bipush hx hb (show decode prog_14_method_1_code 358 = .ok (.bipush (48), 2) by decide +kernel) (v := nI 48) (by decide +kernel) ?_
  refine x_newa I hS hB ht D_Model_42_len (atype := .int) (zw (by decide +kernel) rfl) 0 rfl (fun C h => by cases h) 48 (fun cA => rfl) (by decide +kernel) (by decide +kernel) (by decide) (Nat.le_of_ble_eq_true rfl) (Nat.le_of_ble_eq_true rfl) (show decode prog_14_method_1_code 360 = .ok (.newarray .int, 2) by decide +kernel) (fun H hB hS => ?_)
  have hB : x_W cx n t f (D_Model_43 n) 12 (X_Model_44 n) H := hB
  refine x_put I hS hB ht rfl 54 (by decide) (index := 145) (zw (by decide +kernel) rfl) rfl (ty := .array (.int)) (4, n + 42) rfl (by decide +kernel) rfl rfl (by rw [X_Model_44_len]; decide) (show decode prog_14_method_1_code 362 = .ok (.putfield 145, 3) by decide +kernel) (fun H locs hB hS => ?_)
  have hB : x_W cx n t f (D_Model_43 n) 12 (X_Model_45 n) H := hB
  refine lv_aload_n hx hb (show decode prog_14_method_1_code 365 = .ok (.aload_n 0, 1) by decide +kernel) rfl (lv_at hl 0 rfl) ?_
  refine lv_sipush hx hb (show decode prog_14_method_1_code 366 = .ok (.sipush (192), 3) by decide +kernel) (v := nI 192) (by decide +kernel) ?_
  refine x_newa I hS hB ht D_Model_43_len (atype := .int) (zw (by decide +kernel) rfl) 0 rfl (fun C h => by cases h) 192 (fun cA => rfl) (by decide +kernel) (by decide +kernel) (by decide) (Nat.le_of_ble_eq_true rfl) (Nat.le_of_ble_eq_true rfl) (show decode prog_14_method_1_code 369 = .ok (.newarray .int, 2) by decide +kernel) (fun H hB hS => ?_)
  have hB : x_W cx n t f (D_Model_44 n) 12 (X_Model_45 n) H := hB
  refine x_put I hS hB ht rfl 55 (by decide) (index := 148) (zw (by decide +kernel) rfl) rfl (ty := .array (.int)) (4, n + 43) rfl (by decide +kernel) rfl rfl (by rw [X_Model_45_len]; decide) (show decode prog_14_method_1_code 371 = .ok (.putfield 148, 3) by decide +kernel) (fun H locs hB hS => ?_)
  have hB : x_W cx n t f (D_Model_44 n) 12 (X_Model_46 n) H := hB
  refine lv_aload_n hx hb (show decode prog_14_method_1_code 374 = .ok (.aload_n 0, 1) by decide +kernel) rfl (lv_at hl 0 rfl) ?_
  refine lv_sipush hx hb (show decode prog_14_method_1_code 375 = .ok (.sipush (192), 3) by decide +kernel) (v := nI 192) (by decide +kernel) ?_
  refine x_newa I hS hB ht D_Model_44_len (atype := .int) (zw (by decide +kernel) rfl) 0 rfl (fun C h => by cases h) 192 (fun cA => rfl) (by decide +kernel) (by decide +kernel) (by decide) (Nat.le_of_ble_eq_true rfl) (Nat.le_of_ble_eq_true rfl) (show decode prog_14_method_1_code 378 = .ok (.newarray .int, 2) by decide +kernel) (fun H hB hS => ?_)
  have hB : x_W cx n t f (D_Model_45 n) 12 (X_Model_46 n) H := hB
  refine x_put I hS hB ht rfl 56 (by decide) (index := 151) (zw (by decide +kernel) rfl) rfl (ty := .array (.int)) (4, n + 44) rfl (by decide +kernel) rfl rfl (by rw [X_Model_46_len]; decide) (show decode prog_14_method_1_code 380 = .ok (.putfield 151, 3) by decide +kernel) (fun H locs hB hS => ?_)
  have hB : x_W cx n t f (D_Model_45 n) 12 (X_Model_47 n) H := hB
  refine lv_aload_n hx hb (show decode prog_14_method_1_code 383 = .ok (.aload_n 0, 1) by decide +kernel) rfl (lv_at hl 0 rfl) ?_
  refine lv_bipush hx hb (show decode prog_14_method_1_code 384 = .ok (.bipush (120), 2) by decide +kernel) (v := nI 120) (by decide +kernel) ?_
  refine x_newa I hS hB ht D_Model_45_len (atype := .int) (zw (by decide +kernel) rfl) 0 rfl (fun C h => by cases h) 120 (fun cA => rfl) (by decide +kernel) (by decide +kernel) (by decide) (Nat.le_of_ble_eq_true rfl) (Nat.le_of_ble_eq_true rfl) (show decode prog_14_method_1_code 386 = .ok (.newarray .int, 2) by decide +kernel) (fun H hB hS => ?_)
  have hB : x_W cx n t f (D_Model_46 n) 12 (X_Model_47 n) H := hB
  refine x_put I hS hB ht rfl 57 (by decide) (index := 154) (zw (by decide +kernel) rfl) rfl (ty := .array (.int)) (4, n + 45) rfl (by decide +kernel) rfl rfl (by rw [X_Model_47_len]; decide) (show decode prog_14_method_1_code 388 = .ok (.putfield 154, 3) by decide +kernel) (fun H locs hB hS => ?_)
  have hB : x_W cx n t f (D_Model_46 n) 12 (X_Model_48 n) H := hB
  refine lv_aload_n hx hb (show decode prog_14_method_1_code 391 = .ok (.aload_n 0, 1) by decide +kernel) rfl (lv_at hl 0 rfl) ?_
  refine lv_bipush hx hb (show decode prog_14_method_1_code 392 = .ok (.bipush (120), 2) by decide +kernel) (v := nI 120) (by decide +kernel) ?_
  refine x_newa I hS hB ht D_Model_46_len (atype := .int) (zw (by decide +kernel) rfl) 0 rfl (fun C h => by cases h) 120 (fun cA => rfl) (by decide +kernel) (by decide +kernel) (by decide) (Nat.le_of_ble_eq_true rfl) (Nat.le_of_ble_eq_true rfl) (show decode prog_14_method_1_code 394 = .ok (.newarray .int, 2) by decide +kernel) (fun H hB hS => ?_)
  have hB : x_W cx n t f (D_Model_47 n) 12 (X_Model_48 n) H := hB
  refine x_put I hS hB ht rfl 58 (by decide) (index := 157) (zw (by decide +kernel) rfl) rfl (ty := .array (.int)) (4, n + 46) rfl (by decide +kernel) rfl rfl (by rw [X_Model_48_len]; decide) (show decode prog_14_method_1_code 396 = .ok (.putfield 157, 3) by decide +kernel) (fun H locs hB hS => ?_)
  have hB : x_W cx n t f (D_Model_47 n) 12 (X_Model_49 n) H := hB
  refine lv_aload_n hx hb (show decode prog_14_method_1_code 399 = .ok (.aload_n 0, 1) by decide +kernel) rfl (lv_at hl 0 rfl) ?_
  refine lv_sipush hx hb (show decode prog_14_method_1_code 400 = .ok (.sipush (7200), 3) by decide +kernel) (v := nI 7200) (by decide +kernel) ?_
  refine x_newa I hS hB ht D_Model_47_len (atype := .int) (zw (by decide +kernel) rfl) 0 rfl (fun C h => by cases h) 7200 (fun cA => rfl) (by decide +kernel) (by decide +kernel) (by decide) (Nat.le_of_ble_eq_true rfl) (Nat.le_of_ble_eq_true rfl) (show decode prog_14_method_1_code 403 = .ok (.newarray .int, 2) by decide +kernel) (fun H hB hS => ?_)
  have hB : x_W cx n t f (D_Model_48 n) 12 (X_Model_49 n) H := hB
  refine x_put I hS hB ht rfl 59 (by decide) (index := 160) (zw (by decide +kernel) rfl) rfl (ty := .array (.int)) (4, n + 47) rfl (by decide +kernel) rfl rfl (by rw [X_Model_49_len]; decide) (show decode prog_14_method_1_code 405 = .ok (.putfield 160, 3) by decide +kernel) (fun H locs hB hS => ?_)
  have hB : x_W cx n t f (D_Model_48 n) 12 (X_Model_50 n) H := hB
  exact b_cs rfl rfl (kk H locs hB hS)
theorem v_Model_5 (I : b_In cx prog_14_method_1_code 1 RX12 p s m args meth c) (ht : t < n) {H : Heap} {locs : List Loc} {ls : Array Slot} (hl : lv_has ls 1 [(0, .ref (b_a cx t))]) (hB : x_W cx n t f (D_Model_48 n) 12 (X_Model_50 n) H) (hS : va_S (z_A cx) s.heap H locs)
    (kk : ∀ (H : Heap) (locs : List Loc), x_W cx n t f (D_Model_58 n) 12 (X_Model_60 n) H → va_S (z_A cx) s.heap H locs → W p l e (b_rm 1 13 65 41825) s m args below meth c H locs 58 23776 Q (F0 m 488 ls [])) : W p l e (b_rm 1 13 65 41825) s m args below meth c H locs 48 22576 Q (F0 m 408 ls []) := by
  have hx := I.1
  have hb := I.2.1
  refine lv_aload_n hx hb (show decode prog_14_method_1_code 408 = .ok (.aload_n 0, 1) by decide +kernel) rfl (lv_at hl 0 rfl) ?_
  refine lv_bipush hx hb (show decode prog_14_method_1_code 409 = .ok (.bipush (120), 2) by decide +kernel) (v := nI 120) (by decide +kernel) ?_
  refine x_newa I hS hB ht D_Model_48_len (atype := .int) (zw (by decide +kernel) rfl) 0 rfl (fun C h => by cases h) 120 (fun cA => rfl) (by decide +kernel) (by decide +kernel) (by decide) (Nat.le_of_ble_eq_true rfl) (Nat.le_of_ble_eq_true rfl) (show decode prog_14_method_1_code 411 = .ok (.newarray .int, 2) by decide +kernel) (fun H hB hS => ?_)
  have hB : x_W cx n t f (D_Model_49 n) 12 (X_Model_50 n) H := hB
  refine x_put I hS hB ht rfl 60 (by decide) (index := 163) (zw (by decide +kernel) rfl) rfl (ty := .array (.int)) (4, n + 48) rfl (by decide +kernel) rfl rfl (by rw [X_Model_50_len]; decide) (show decode prog_14_method_1_code 413 = .ok (.putfield 163, 3) by decide +kernel) (fun H locs hB hS => ?_)
  have hB : x_W cx n t f (D_Model_49 n) 12 (X_Model_51 n) H := hB
  refine lv_aload_n hx hb (show decode prog_14_method_1_code 416 = .ok (.aload_n 0, 1) by decide +kernel) rfl (lv_at hl 0 rfl) ?_
  refine lv_bipush hx hb (show decode prog_14_method_1_code 417 = .ok (.bipush (120), 2) by decide +kernel) (v := nI 120) (by decide +kernel) ?_
  refine x_newa I hS hB ht D_Model_49_len (atype := .int) (zw (by decide +kernel) rfl) 0 rfl (fun C h => by cases h) 120 (fun cA => rfl) (by decide +kernel) (by decide +kernel) (by decide) (Nat.le_of_ble_eq_true rfl) (Nat.le_of_ble_eq_true rfl) (show decode prog_14_method_1_code 419 = .ok (.newarray .int, 2) by decide +kernel) (fun H hB hS => ?_)
  have hB : x_W cx n t f (D_Model_50 n) 12 (X_Model_51 n) H := hB
  refine x_put I hS hB ht rfl 61 (by decide) (index := 166) (zw (by decide +kernel) rfl) rfl (ty := .array (.int)) (4, n + 49) rfl (by decide +kernel) rfl rfl (by rw [X_Model_51_len]; decide) (show decode prog_14_method_1_code 421 = .ok (.putfield 166, 3) by decide +kernel) (fun H locs hB hS => ?_)
  have hB : x_W cx n t f (D_Model_50 n) 12 (X_Model_52 n) H := hB
  refine lv_aload_n hx hb (show decode prog_14_method_1_code 424 = .ok (.aload_n 0, 1) by decide +kernel) rfl (lv_at hl 0 rfl) ?_
  refine lv_bipush hx hb (show decode prog_14_method_1_code 425 = .ok (.bipush (120), 2) by decide +kernel) (v := nI 120) (by decide +kernel) ?_
  refine x_newa I hS hB ht D_Model_50_len (atype := .int) (zw (by decide +kernel) rfl) 0 rfl (fun C h => by cases h) 120 (fun cA => rfl) (by decide +kernel) (by decide +kernel) (by decide) (Nat.le_of_ble_eq_true rfl) (Nat.le_of_ble_eq_true rfl) (show decode prog_14_method_1_code 427 = .ok (.newarray .int, 2) by decide +kernel) (fun H hB hS => ?_)
  have hB : x_W cx n t f (D_Model_51 n) 12 (X_Model_52 n) H := hB
  refine x_put I hS hB ht rfl 62 (by decide) (index := 169) (zw (by decide +kernel) rfl) rfl (ty := .array (.int)) (4, n + 50) rfl (by decide +kernel) rfl rfl (by rw [X_Model_52_len]; decide) (show decode prog_14_method_1_code 429 = .ok (.putfield 169, 3) by decide +kernel) (fun H locs hB hS => ?_)
  have hB : x_W cx n t f (D_Model_51 n) 12 (X_Model_53 n) H := hB
  refine lv_aload_n hx hb (show decode prog_14_method_1_code 432 = .ok (.aload_n 0, 1) by decide +kernel) rfl (lv_at hl 0 rfl) ?_
  refine lv_bipush hx hb (show decode prog_14_method_1_code 433 = .ok (.bipush (120), 2) by decide +kernel) (v := nI 120) (by decide +kernel) ?_
  refine x_newa I hS hB ht D_Model_51_len (atype := .int) (zw (by decide +kernel) rfl) 0 rfl (fun C h => by cases h) 120 (fun cA => rfl) (by decide +kernel) (by decide +kernel) (by decide) (Nat.le_of_ble_eq_true rfl) (Nat.le_of_ble_eq_true rfl) (show decode prog_14_method_1_code 435 = .ok (.newarray .int, 2) by decide +kernel) (fun H hB hS => ?_)
  have hB : x_W cx n t f (D_Model_52 n) 12 (X_Model_53 n) H := hB
  refine x_put I hS hB ht rfl 63 (by decide) (index := 172) (zw (by decide +kernel) rfl) rfl (ty := .array (.int)) (4, n + 51) rfl (by decide +kernel) rfl rfl (by rw [X_Model_53_len]; decide) (show decode prog_14_method_1_code 437 = .ok (.putfield 172, 3) by decide +kernel) (fun H locs hB hS => ?_)
  have hB : x_W cx n t f (D_Model_52 n) 12 (X_Model_54 n) H := hB
  refine lv_aload_n hx hb (show decode prog_14_method_1_code 440 = .ok (.aload_n 0, 1) by decide +kernel) rfl (lv_at hl 0 rfl) ?_
  refine lv_bipush hx hb (show decode prog_14_method_1_code 441 = .ok (.bipush (120), 2) by decide +kernel) (v := nI 120) (by decide +kernel) ?_
  refine x_newa I hS hB ht D_Model_52_len (atype := .boolean) (zw (by decide +kernel) rfl) 3 rfl (fun C h => by cases h) 120 (fun cA => rfl) (by decide +kernel) (by decide +kernel) (by decide) (Nat.le_of_ble_eq_true rfl) (Nat.le_of_ble_eq_true rfl) (show decode prog_14_method_1_code 443 = .ok (.newarray .boolean, 2) by decide +kernel) (fun H hB hS => ?_)
  have hB : x_W cx n t f (D_Model_53 n) 12 (X_Model_54 n) H := hB
  refine x_put I hS hB ht rfl 64 (by decide) (index := 175) (zw (by decide +kernel) rfl) rfl (ty := .array (.boolean)) (4, n + 52) rfl (by decide +kernel) rfl rfl (by rw [X_Model_54_len]; decide) (show decode prog_14_method_1_code 445 = .ok (.putfield 175, 3) by decide +kernel) (fun H locs hB hS => ?_)
  have hB : x_W cx n t f (D_Model_53 n) 12 (X_Model_55 n) H := hB
  refine lv_aload_n hx hb (show decode prog_14_method_1_code 448 = .ok (.aload_n 0, 1) by decide +kernel) rfl (lv_at hl 0 rfl) ?_
  refine lv_bipush hx hb (show decode prog_14_method_1_code 449 = .ok (.bipush (120), 2) by decide +kernel) (v := nI 120) (by decide +kernel) ?_
  refine x_newa I hS hB ht D_Model_53_len (atype := .long) (zw (by decide +kernel) rfl) 1 rfl (fun C h => by cases h) 120 (fun cA => rfl) (by decide +kernel) (by decide +kernel) (by decide) (Nat.le_of_ble_eq_true rfl) (Nat.le_of_ble_eq_true rfl) (show decode prog_14_method_1_code 451 = .ok (.newarray .long, 2) by decide +kernel) (fun H hB hS => ?_)
  have hB : x_W cx n t f (D_Model_54 n) 12 (X_Model_55 n) H := hB
  refine x_put I hS hB ht rfl 65 (by decide) (index := 178) (zw (by decide +kernel) rfl) rfl (ty := .array (.long)) (4, n + 53) rfl (by decide +kernel) rfl rfl (by rw [X_Model_55_len]; decide) (show decode prog_14_method_1_code 453 = .ok (.putfield 178, 3) by decide +kernel) (fun H locs hB hS => ?_)
  have hB : x_W cx n t f (D_Model_54 n) 12 (X_Model_56 n) H := hB
  refine lv_aload_n hx hb (show decode prog_14_method_1_code 456 = .ok (.aload_n 0, 1) by decide +kernel) rfl (lv_at hl 0 rfl) ?_
  refine lv_bipush hx hb (show decode prog_14_method_1_code 457 = .ok (.bipush (120), 2) by decide +kernel) (v := nI 120) (by decide +kernel) ?_
  refine x_newa I hS hB ht D_Model_54_len (atype := .long) (zw (by decide +kernel) rfl) 1 rfl (fun C h => by cases h) 120 (fun cA => rfl) (by decide +kernel) (by decide +kernel) (by decide) (Nat.le_of_ble_eq_true rfl) (Nat.le_of_ble_eq_true rfl) (show decode prog_14_method_1_code 459 = .ok (.newarray .long, 2) by decide +kernel) (fun H hB hS => ?_)
  have hB : x_W cx n t f (D_Model_55 n) 12 (X_Model_56 n) H := hB
  refine x_put I hS hB ht rfl 66 (by decide) (index := 181) (zw (by decide +kernel) rfl) rfl (ty := .array (.long)) (4, n + 54) rfl (by decide +kernel) rfl rfl (by rw [X_Model_56_len]; decide) (show decode prog_14_method_1_code 461 = .ok (.putfield 181, 3) by decide +kernel) (fun H locs hB hS => ?_)
  have hB : x_W cx n t f (D_Model_55 n) 12 (X_Model_57 n) H := hB
  refine lv_aload_n hx hb (show decode prog_14_method_1_code 464 = .ok (.aload_n 0, 1) by decide +kernel) rfl (lv_at hl 0 rfl) ?_
  refine lv_bipush hx hb (show decode prog_14_method_1_code 465 = .ok (.bipush (120), 2) by decide +kernel) (v := nI 120) (by decide +kernel) ?_
  refine x_newa I hS hB ht D_Model_55_len (atype := .long) (zw (by decide +kernel) rfl) 1 rfl (fun C h => by cases h) 120 (fun cA => rfl) (by decide +kernel) (by decide +kernel) (by decide) (Nat.le_of_ble_eq_true rfl) (Nat.le_of_ble_eq_true rfl) (show decode prog_14_method_1_code 467 = .ok (.newarray .long, 2) by decide +kernel) (fun H hB hS => ?_)
  have hB : x_W cx n t f (D_Model_56 n) 12 (X_Model_57 n) H := hB
  refine x_put I hS hB ht rfl 67 (by decide) (index := 184) (zw (by decide +kernel) rfl) rfl (ty := .array (.long)) (4, n + 55) rfl (by decide +kernel) rfl rfl (by rw [X_Model_57_len]; decide) (show decode prog_14_method_1_code 469 = .ok (.putfield 184, 3) by decide +kernel) (fun H locs hB hS => ?_)
  have hB : x_W cx n t f (D_Model_56 n) 12 (X_Model_58 n) H := hB
  refine lv_aload_n hx hb (show decode prog_14_method_1_code 472 = .ok (.aload_n 0, 1) by decide +kernel) rfl (lv_at hl 0 rfl) ?_
  refine lv_bipush hx hb (show decode prog_14_method_1_code 473 = .ok (.bipush (120), 2) by decide +kernel) (v := nI 120) (by decide +kernel) ?_
  refine x_newa I hS hB ht D_Model_56_len (atype := .long) (zw (by decide +kernel) rfl) 1 rfl (fun C h => by cases h) 120 (fun cA => rfl) (by decide +kernel) (by decide +kernel) (by decide) (Nat.le_of_ble_eq_true rfl) (Nat.le_of_ble_eq_true rfl) (show decode prog_14_method_1_code 475 = .ok (.newarray .long, 2) by decide +kernel) (fun H hB hS => ?_)
  have hB : x_W cx n t f (D_Model_57 n) 12 (X_Model_58 n) H := hB
  refine x_put I hS hB ht rfl 68 (by decide) (index := 187) (zw (by decide +kernel) rfl) rfl (ty := .array (.long)) (4, n + 56) rfl (by decide +kernel) rfl rfl (by rw [X_Model_58_len]; decide) (show decode prog_14_method_1_code 477 = .ok (.putfield 187, 3) by decide +kernel) (fun H locs hB hS => ?_)
  have hB : x_W cx n t f (D_Model_57 n) 12 (X_Model_59 n) H := hB
  refine lv_aload_n hx hb (show decode prog_14_method_1_code 480 = .ok (.aload_n 0, 1) by decide +kernel) rfl (lv_at hl 0 rfl) ?_
  refine lv_bipush hx hb (show decode prog_14_method_1_code 481 = .ok (.bipush (120), 2) by decide +kernel) (v := nI 120) (by decide +kernel) ?_
  refine x_newa I hS hB ht D_Model_57_len (atype := .long) (zw (by decide +kernel) rfl) 1 rfl (fun C h => by cases h) 120 (fun cA => rfl) (by decide +kernel) (by decide +kernel) (by decide) (Nat.le_of_ble_eq_true rfl) (Nat.le_of_ble_eq_true rfl) (show decode prog_14_method_1_code 483 = .ok (.newarray .long, 2) by decide +kernel) (fun H hB hS => ?_)
  have hB : x_W cx n t f (D_Model_58 n) 12 (X_Model_59 n) H := hB
  refine x_put I hS hB ht rfl 69 (by decide) (index := 190) (zw (by decide +kernel) rfl) rfl (ty := .array (.long)) (4, n + 57) rfl (by decide +kernel) rfl rfl (by rw [X_Model_59_len]; decide) (show decode prog_14_method_1_code 485 = .ok (.putfield 190, 3) by decide +kernel) (fun H locs hB hS => ?_)
  have hB : x_W cx n t f (D_Model_58 n) 12 (X_Model_60 n) H := hB
  exact b_cs rfl rfl (kk H locs hB hS)
theorem v_Model_6 (I : b_In cx prog_14_method_1_code 1 RX12 p s m args meth c) (ht : t < n) {H : Heap} {locs : List Loc} {ls : Array Slot} (hl : lv_has ls 1 [(0, .ref (b_a cx t))]) (hB : x_W cx n t f (D_Model_58 n) 12 (X_Model_60 n) H) (hS : va_S (z_A cx) s.heap H locs)
    (kk : ∀ (H : Heap) (locs : List Loc), x_W cx n t f (D_Model_65 n) 12 (X_Model_67 n) H → va_S (z_A cx) s.heap H locs → W p l e (b_rm 1 13 65 41825) s m args below meth c H locs 65 41825 Q (F0 m 545 ls [])) : W p l e (b_rm 1 13 65 41825) s m args below meth c H locs 58 23776 Q (F0 m 488 ls []) := by
  have hx := I.1
  have hb := I.2.1
  refine lv_aload_n hx hb (show decode prog_14_method_1_code 488 = .ok (.aload_n 0, 1) by decide +kernel) rfl (lv_at hl 0 rfl) ?_
  refine lv_iconst hx hb (show decode prog_14_method_1_code 489 = .ok (.iconst (3), 1) by decide +kernel) (v := nI 3) (by decide +kernel) ?_
  refine x_newa I hS hB ht D_Model_58_len (atype := .int) (zw (by decide +kernel) rfl) 0 rfl (fun C h => by cases h) 3 (fun cA => rfl) (by decide +kernel) (by decide +kernel) (by decide) (Nat.le_of_ble_eq_true rfl) (Nat.le_of_ble_eq_true rfl) (show decode prog_14_method_1_code 490 = .ok (.newarray .int, 2) by decide +kernel) (fun H hB hS => ?_)
  have hB : x_W cx n t f (D_Model_59 n) 12 (X_Model_60 n) H := hB
  refine x_put I hS hB ht rfl 70 (by decide) (index := 193) (zw (by decide +kernel) rfl) rfl (ty := .array (.int)) (4, n + 58) rfl (by decide +kernel) rfl rfl (by rw [X_Model_60_len]; decide) (show decode prog_14_method_1_code 492 = .ok (.putfield 193, 3) by decide +kernel) (fun H locs hB hS => ?_)
  have hB : x_W cx n t f (D_Model_59 n) 12 (X_Model_61 n) H := hB
  refine lv_aload_n hx hb (show decode prog_14_method_1_code 495 = .ok (.aload_n 0, 1) by decide +kernel) rfl (lv_at hl 0 rfl) ?_
  refine lv_iconst hx hb (show decode prog_14_method_1_code 496 = .ok (.iconst (3), 1) by decide +kernel) (v := nI 3) (by decide +kernel) ?_
  refine x_newa I hS hB ht D_Model_59_len (atype := .int) (zw (by decide +kernel) rfl) 0 rfl (fun C h => by cases h) 3 (fun cA => rfl) (by decide +kernel) (by decide +kernel) (by decide) (Nat.le_of_ble_eq_true rfl) (Nat.le_of_ble_eq_true rfl) (show decode prog_14_method_1_code 497 = .ok (.newarray .int, 2) by decide +kernel) (fun H hB hS => ?_)
  have hB : x_W cx n t f (D_Model_60 n) 12 (X_Model_61 n) H := hB
  refine x_put I hS hB ht rfl 71 (by decide) (index := 196) (zw (by decide +kernel) rfl) rfl (ty := .array (.int)) (4, n + 59) rfl (by decide +kernel) rfl rfl (by rw [X_Model_61_len]; decide) (show decode prog_14_method_1_code 499 = .ok (.putfield 196, 3) by decide +kernel) (fun H locs hB hS => ?_)
  have hB : x_W cx n t f (D_Model_60 n) 12 (X_Model_62 n) H := hB
  refine lv_aload_n hx hb (show decode prog_14_method_1_code 502 = .ok (.aload_n 0, 1) by decide +kernel) rfl (lv_at hl 0 rfl) ?_
  refine lv_iconst hx hb (show decode prog_14_method_1_code 503 = .ok (.iconst (3), 1) by decide +kernel) (v := nI 3) (by decide +kernel) ?_
  refine x_newa I hS hB ht D_Model_60_len (atype := .int) (zw (by decide +kernel) rfl) 0 rfl (fun C h => by cases h) 3 (fun cA => rfl) (by decide +kernel) (by decide +kernel) (by decide) (Nat.le_of_ble_eq_true rfl) (Nat.le_of_ble_eq_true rfl) (show decode prog_14_method_1_code 504 = .ok (.newarray .int, 2) by decide +kernel) (fun H hB hS => ?_)
  have hB : x_W cx n t f (D_Model_61 n) 12 (X_Model_62 n) H := hB
  refine x_put I hS hB ht rfl 72 (by decide) (index := 199) (zw (by decide +kernel) rfl) rfl (ty := .array (.int)) (4, n + 60) rfl (by decide +kernel) rfl rfl (by rw [X_Model_62_len]; decide) (show decode prog_14_method_1_code 506 = .ok (.putfield 199, 3) by decide +kernel) (fun H locs hB hS => ?_)
  have hB : x_W cx n t f (D_Model_61 n) 12 (X_Model_63 n) H := hB
  refine lv_aload_n hx hb (show decode prog_14_method_1_code 509 = .ok (.aload_n 0, 1) by decide +kernel) rfl (lv_at hl 0 rfl) ?_
  refine lv_sipush hx hb (show decode prog_14_method_1_code 510 = .ok (.sipush (1600), 3) by decide +kernel) (v := nI 1600) (by decide +kernel) ?_
  refine x_newa I hS hB ht D_Model_61_len (atype := .boolean) (zw (by decide +kernel) rfl) 3 rfl (fun C h => by cases h) 1600 (fun cA => rfl) (by decide +kernel) (by decide +kernel) (by decide) (Nat.le_of_ble_eq_true rfl) (Nat.le_of_ble_eq_true rfl) (show decode prog_14_method_1_code 513 = .ok (.newarray .boolean, 2) by decide +kernel) (fun H hB hS => ?_)
  have hB : x_W cx n t f (D_Model_62 n) 12 (X_Model_63 n) H := hB
  refine x_put I hS hB ht rfl 73 (by decide) (index := 202) (zw (by decide +kernel) rfl) rfl (ty := .array (.boolean)) (4, n + 61) rfl (by decide +kernel) rfl rfl (by rw [X_Model_63_len]; decide) (show decode prog_14_method_1_code 515 = .ok (.putfield 202, 3) by decide +kernel) (fun H locs hB hS => ?_)
  have hB : x_W cx n t f (D_Model_62 n) 12 (X_Model_64 n) H := hB
  refine lv_aload_n hx hb (show decode prog_14_method_1_code 518 = .ok (.aload_n 0, 1) by decide +kernel) rfl (lv_at hl 0 rfl) ?_
  refine lv_sipush hx hb (show decode prog_14_method_1_code 519 = .ok (.sipush (200), 3) by decide +kernel) (v := nI 200) (by decide +kernel) ?_
  refine x_newa I hS hB ht D_Model_62_len (atype := .long) (zw (by decide +kernel) rfl) 1 rfl (fun C h => by cases h) 200 (fun cA => rfl) (by decide +kernel) (by decide +kernel) (by decide) (Nat.le_of_ble_eq_true rfl) (Nat.le_of_ble_eq_true rfl) (show decode prog_14_method_1_code 522 = .ok (.newarray .long, 2) by decide +kernel) (fun H hB hS => ?_)
  have hB : x_W cx n t f (D_Model_63 n) 12 (X_Model_64 n) H := hB
  refine x_put I hS hB ht rfl 77 (by decide) (index := 205) (zw (by decide +kernel) rfl) rfl (ty := .array (.long)) (4, n + 62) rfl (by decide +kernel) rfl rfl (by rw [X_Model_64_len]; decide) (show decode prog_14_method_1_code 524 = .ok (.putfield 205, 3) by decide +kernel) (fun H locs hB hS => ?_)
  have hB : x_W cx n t f (D_Model_63 n) 12 (X_Model_65 n) H := hB
  refine lv_aload_n hx hb (show decode prog_14_method_1_code 527 = .ok (.aload_n 0, 1) by decide +kernel) rfl (lv_at hl 0 rfl) ?_
  refine lv_sipush hx hb (show decode prog_14_method_1_code 528 = .ok (.sipush (16000), 3) by decide +kernel) (v := nI 16000) (by decide +kernel) ?_
  refine x_newa I hS hB ht D_Model_63_len (atype := .int) (zw (by decide +kernel) rfl) 0 rfl (fun C h => by cases h) 16000 (fun cA => rfl) (by decide +kernel) (by decide +kernel) (by decide) (Nat.le_of_ble_eq_true rfl) (Nat.le_of_ble_eq_true rfl) (show decode prog_14_method_1_code 531 = .ok (.newarray .int, 2) by decide +kernel) (fun H hB hS => ?_)
  have hB : x_W cx n t f (D_Model_64 n) 12 (X_Model_65 n) H := hB
  refine x_put I hS hB ht rfl 78 (by decide) (index := 208) (zw (by decide +kernel) rfl) rfl (ty := .array (.int)) (4, n + 63) rfl (by decide +kernel) rfl rfl (by rw [X_Model_65_len]; decide) (show decode prog_14_method_1_code 533 = .ok (.putfield 208, 3) by decide +kernel) (fun H locs hB hS => ?_)
  have hB : x_W cx n t f (D_Model_64 n) 12 (X_Model_66 n) H := hB
  refine lv_aload_n hx hb (show decode prog_14_method_1_code 536 = .ok (.aload_n 0, 1) by decide +kernel) rfl (lv_at hl 0 rfl) ?_
  refine lv_sipush hx hb (show decode prog_14_method_1_code 537 = .ok (.sipush (240), 3) by decide +kernel) (v := nI 240) (by decide +kernel) ?_
  refine x_newa I hS hB ht D_Model_64_len (atype := .int) (zw (by decide +kernel) rfl) 0 rfl (fun C h => by cases h) 240 (fun cA => rfl) (by decide +kernel) (by decide +kernel) (by decide) (Nat.le_of_ble_eq_true rfl) (Nat.le_of_ble_eq_true rfl) (show decode prog_14_method_1_code 540 = .ok (.newarray .int, 2) by decide +kernel) (fun H hB hS => ?_)
  have hB : x_W cx n t f (D_Model_65 n) 12 (X_Model_66 n) H := hB
  refine x_put I hS hB ht rfl 81 (by decide) (index := 211) (zw (by decide +kernel) rfl) rfl (ty := .array (.int)) (4, n + 64) rfl (by decide +kernel) rfl rfl (by rw [X_Model_66_len]; decide) (show decode prog_14_method_1_code 542 = .ok (.putfield 211, 3) by decide +kernel) (fun H locs hB hS => ?_)
  have hB : x_W cx n t f (D_Model_65 n) 12 (X_Model_67 n) H := hB
  exact b_cs rfl rfl (kk H locs hB hS)
end
def y_Model : MethodName := ⟨RX12, "<init>", "()V"⟩
def T_Model (n : Nat) : List dE := D_Model_65 n
theorem T_Model_len {n : Nat} : (T_Model n).length = 65 := D_Model_65_len
def F_Model (n : Nat) : List dV := X_Model_67 n
theorem d_Model {cx : zX} : dOk y_Model prog_14_method_1_code 1 1 13 65 41825 cx [] 12 (T_Model) (F_Model) := by
  intro n t f hf ht
  refine b_enter rfl (by decide) (Nat.le_of_ble_eq_true rfl) (fun p l e s m below meth c ls I hB hl hS => ?_)
  have hl : lv_has ls 1 [(0, .ref (b_a cx t))] := hl
  have hx := I.1
  have hb := I.2.1
  have hB : x_W cx n t f (D_Model_0 n) 12 (X_Model_0 n) s.heap := x_W0 hB hf
  refine lv_aload_n hx hb (show decode prog_14_method_1_code 0 = .ok (.aload_n 0, 1) by decide +kernel) rfl (lv_at hl 0 rfl) ?_
  refine b_obj I (idx := 1) (zw (by decide +kernel) rfl) hl.1 (show decode prog_14_method_1_code 1 = .ok (.invokespecial 1, 3) by decide +kernel) (Nat.le_of_ble_eq_true rfl) (Nat.le_of_ble_eq_true rfl) ?_
  refine v_Model_0 I ht hl hB hS (fun H locs hB hS => ?_)
  refine v_Model_1 I ht hl hB hS (fun H locs hB hS => ?_)
  refine v_Model_2 I ht hl hB hS (fun H locs hB hS => ?_)
  refine v_Model_3 I ht hl hB hS (fun H locs hB hS => ?_)
  refine v_Model_4 I ht hl hB hS (fun H locs hB hS => ?_)
  refine v_Model_5 I ht hl hB hS (fun H locs hB hS => ?_)
  refine v_Model_6 I ht hl hB hS (fun H locs hB hS => ?_)
  exact x_ret I (T := T_Model) (F := F_Model) hB rfl rfl hS (Nat.le_of_ble_eq_true rfl) (Nat.le_of_ble_eq_true rfl) (show decode prog_14_method_1_code 545 = .ok (.return_, 1) by decide +kernel)
