/-! ===== the model's constructor, first half (printed by wip/p1/gen/p64.py) ===== -/
def D_Model_0 (n : Nat) : List dE := []
theorem D_Model_0_len {n : Nat} : (D_Model_0 n).length = 0 := rfl
def X_Model_0 (n : Nat) : List dV := d_df 12
theorem X_Model_0_len {n : Nat} : (X_Model_0 n).length = 82 := by
  show (d_df 12).length = 82
  decide +kernel
def D_Model_1 (n : Nat) : List dE := D_Model_0 n ++ [dA 0 1200]
theorem D_Model_1_len {n : Nat} : (D_Model_1 n).length = 1 := by rw [D_Model_1, List.length_append, D_Model_0_len]; rfl
def X_Model_1 (n : Nat) : List dV := (X_Model_0 n).set 0 (4, n + 0)
theorem X_Model_1_len {n : Nat} : (X_Model_1 n).length = 82 := by rw [X_Model_1, List.length_set, X_Model_0_len]
def D_Model_2 (n : Nat) : List dE := D_Model_1 n ++ [dA 0 7200]
theorem D_Model_2_len {n : Nat} : (D_Model_2 n).length = 2 := by rw [D_Model_2, List.length_append, D_Model_1_len]; rfl
def X_Model_2 (n : Nat) : List dV := (X_Model_1 n).set 2 (4, n + 1)
theorem X_Model_2_len {n : Nat} : (X_Model_2 n).length = 82 := by rw [X_Model_2, List.length_set, X_Model_1_len]
def D_Model_3 (n : Nat) : List dE := D_Model_2 n ++ [dA 0 6]
theorem D_Model_3_len {n : Nat} : (D_Model_3 n).length = 3 := by rw [D_Model_3, List.length_append, D_Model_2_len]; rfl
def X_Model_3 (n : Nat) : List dV := (X_Model_2 n).set 3 (4, n + 2)
theorem X_Model_3_len {n : Nat} : (X_Model_3 n).length = 82 := by rw [X_Model_3, List.length_set, X_Model_2_len]
def D_Model_4 (n : Nat) : List dE := D_Model_3 n ++ [dA 0 8]
theorem D_Model_4_len {n : Nat} : (D_Model_4 n).length = 4 := by rw [D_Model_4, List.length_append, D_Model_3_len]; rfl
def X_Model_4 (n : Nat) : List dV := (X_Model_3 n).set 10 (4, n + 3)
theorem X_Model_4_len {n : Nat} : (X_Model_4 n).length = 82 := by rw [X_Model_4, List.length_set, X_Model_3_len]
def D_Model_5 (n : Nat) : List dE := D_Model_4 n ++ [dA 0 8]
theorem D_Model_5_len {n : Nat} : (D_Model_5 n).length = 5 := by rw [D_Model_5, List.length_append, D_Model_4_len]; rfl
def X_Model_5 (n : Nat) : List dV := (X_Model_4 n).set 11 (4, n + 4)
theorem X_Model_5_len {n : Nat} : (X_Model_5 n).length = 82 := by rw [X_Model_5, List.length_set, X_Model_4_len]
def X_Model_6 (n : Nat) : List dV := (X_Model_5 n).set 13 (1, 5)
theorem X_Model_6_len {n : Nat} : (X_Model_6 n).length = 82 := by rw [X_Model_6, List.length_set, X_Model_5_len]
def X_Model_7 (n : Nat) : List dV := (X_Model_6 n).set 14 (1, 5)
theorem X_Model_7_len {n : Nat} : (X_Model_7 n).length = 82 := by rw [X_Model_7, List.length_set, X_Model_6_len]
def D_Model_6 (n : Nat) : List dE := D_Model_5 n ++ [dA 3 3]
theorem D_Model_6_len {n : Nat} : (D_Model_6 n).length = 6 := by rw [D_Model_6, List.length_append, D_Model_5_len]; rfl
def X_Model_8 (n : Nat) : List dV := (X_Model_7 n).set 16 (4, n + 5)
theorem X_Model_8_len {n : Nat} : (X_Model_8 n).length = 82 := by rw [X_Model_8, List.length_set, X_Model_7_len]
def D_Model_7 (n : Nat) : List dE := D_Model_6 n ++ [dA 0 3]
theorem D_Model_7_len {n : Nat} : (D_Model_7 n).length = 7 := by rw [D_Model_7, List.length_append, D_Model_6_len]; rfl
def X_Model_9 (n : Nat) : List dV := (X_Model_8 n).set 17 (4, n + 6)
theorem X_Model_9_len {n : Nat} : (X_Model_9 n).length = 82 := by rw [X_Model_9, List.length_set, X_Model_8_len]
def D_Model_8 (n : Nat) : List dE := D_Model_7 n ++ [dA 0 3]
theorem D_Model_8_len {n : Nat} : (D_Model_8 n).length = 8 := by rw [D_Model_8, List.length_append, D_Model_7_len]; rfl
def X_Model_10 (n : Nat) : List dV := (X_Model_9 n).set 18 (4, n + 7)
theorem X_Model_10_len {n : Nat} : (X_Model_10 n).length = 82 := by rw [X_Model_10, List.length_set, X_Model_9_len]
def D_Model_9 (n : Nat) : List dE := D_Model_8 n ++ [dA 0 3]
theorem D_Model_9_len {n : Nat} : (D_Model_9 n).length = 9 := by rw [D_Model_9, List.length_append, D_Model_8_len]; rfl
def X_Model_11 (n : Nat) : List dV := (X_Model_10 n).set 19 (4, n + 8)
theorem X_Model_11_len {n : Nat} : (X_Model_11 n).length = 82 := by rw [X_Model_11, List.length_set, X_Model_10_len]
def D_Model_10 (n : Nat) : List dE := D_Model_9 n ++ [dA 0 3]
theorem D_Model_10_len {n : Nat} : (D_Model_10 n).length = 10 := by rw [D_Model_10, List.length_append, D_Model_9_len]; rfl
def X_Model_12 (n : Nat) : List dV := (X_Model_11 n).set 20 (4, n + 9)
theorem X_Model_12_len {n : Nat} : (X_Model_12 n).length = 82 := by rw [X_Model_12, List.length_set, X_Model_11_len]
def D_Model_11 (n : Nat) : List dE := D_Model_10 n ++ [dA 0 3]
theorem D_Model_11_len {n : Nat} : (D_Model_11 n).length = 11 := by rw [D_Model_11, List.length_append, D_Model_10_len]; rfl
def X_Model_13 (n : Nat) : List dV := (X_Model_12 n).set 21 (4, n + 10)
theorem X_Model_13_len {n : Nat} : (X_Model_13 n).length = 82 := by rw [X_Model_13, List.length_set, X_Model_12_len]
def D_Model_12 (n : Nat) : List dE := D_Model_11 n ++ [dA 1 120]
theorem D_Model_12_len {n : Nat} : (D_Model_12 n).length = 12 := by rw [D_Model_12, List.length_append, D_Model_11_len]; rfl
def X_Model_14 (n : Nat) : List dV := (X_Model_13 n).set 23 (4, n + 11)
theorem X_Model_14_len {n : Nat} : (X_Model_14 n).length = 82 := by rw [X_Model_14, List.length_set, X_Model_13_len]
def D_Model_13 (n : Nat) : List dE := D_Model_12 n ++ [dA 0 120]
theorem D_Model_13_len {n : Nat} : (D_Model_13 n).length = 13 := by rw [D_Model_13, List.length_append, D_Model_12_len]; rfl
def X_Model_15 (n : Nat) : List dV := (X_Model_14 n).set 24 (4, n + 12)
theorem X_Model_15_len {n : Nat} : (X_Model_15 n).length = 82 := by rw [X_Model_15, List.length_set, X_Model_14_len]
def D_Model_14 (n : Nat) : List dE := D_Model_13 n ++ [dA 0 120]
theorem D_Model_14_len {n : Nat} : (D_Model_14 n).length = 14 := by rw [D_Model_14, List.length_append, D_Model_13_len]; rfl
def X_Model_16 (n : Nat) : List dV := (X_Model_15 n).set 25 (4, n + 13)
theorem X_Model_16_len {n : Nat} : (X_Model_16 n).length = 82 := by rw [X_Model_16, List.length_set, X_Model_15_len]
def D_Model_15 (n : Nat) : List dE := D_Model_14 n ++ [dA 0 120]
theorem D_Model_15_len {n : Nat} : (D_Model_15 n).length = 15 := by rw [D_Model_15, List.length_append, D_Model_14_len]; rfl
def X_Model_17 (n : Nat) : List dV := (X_Model_16 n).set 26 (4, n + 14)
theorem X_Model_17_len {n : Nat} : (X_Model_17 n).length = 82 := by rw [X_Model_17, List.length_set, X_Model_16_len]
def D_Model_16 (n : Nat) : List dE := D_Model_15 n ++ [dA 0 120]
theorem D_Model_16_len {n : Nat} : (D_Model_16 n).length = 16 := by rw [D_Model_16, List.length_append, D_Model_15_len]; rfl
def X_Model_18 (n : Nat) : List dV := (X_Model_17 n).set 27 (4, n + 15)
theorem X_Model_18_len {n : Nat} : (X_Model_18 n).length = 82 := by rw [X_Model_18, List.length_set, X_Model_17_len]
def D_Model_17 (n : Nat) : List dE := D_Model_16 n ++ [dA 0 120]
theorem D_Model_17_len {n : Nat} : (D_Model_17 n).length = 17 := by rw [D_Model_17, List.length_append, D_Model_16_len]; rfl
def X_Model_19 (n : Nat) : List dV := (X_Model_18 n).set 28 (4, n + 16)
theorem X_Model_19_len {n : Nat} : (X_Model_19 n).length = 82 := by rw [X_Model_19, List.length_set, X_Model_18_len]
def D_Model_18 (n : Nat) : List dE := D_Model_17 n ++ [dA 0 120]
theorem D_Model_18_len {n : Nat} : (D_Model_18 n).length = 18 := by rw [D_Model_18, List.length_append, D_Model_17_len]; rfl
def X_Model_20 (n : Nat) : List dV := (X_Model_19 n).set 29 (4, n + 17)
theorem X_Model_20_len {n : Nat} : (X_Model_20 n).length = 82 := by rw [X_Model_20, List.length_set, X_Model_19_len]
def D_Model_19 (n : Nat) : List dE := D_Model_18 n ++ [dA 1 120]
theorem D_Model_19_len {n : Nat} : (D_Model_19 n).length = 19 := by rw [D_Model_19, List.length_append, D_Model_18_len]; rfl
def X_Model_21 (n : Nat) : List dV := (X_Model_20 n).set 30 (4, n + 18)
theorem X_Model_21_len {n : Nat} : (X_Model_21 n).length = 82 := by rw [X_Model_21, List.length_set, X_Model_20_len]
def D_Model_20 (n : Nat) : List dE := D_Model_19 n ++ [dA 0 120]
theorem D_Model_20_len {n : Nat} : (D_Model_20 n).length = 20 := by rw [D_Model_20, List.length_append, D_Model_19_len]; rfl
def X_Model_22 (n : Nat) : List dV := (X_Model_21 n).set 31 (4, n + 19)
theorem X_Model_22_len {n : Nat} : (X_Model_22 n).length = 82 := by rw [X_Model_22, List.length_set, X_Model_21_len]
def D_Model_21 (n : Nat) : List dE := D_Model_20 n ++ [dA 0 120]
theorem D_Model_21_len {n : Nat} : (D_Model_21 n).length = 21 := by rw [D_Model_21, List.length_append, D_Model_20_len]; rfl
def X_Model_23 (n : Nat) : List dV := (X_Model_22 n).set 32 (4, n + 20)
theorem X_Model_23_len {n : Nat} : (X_Model_23 n).length = 82 := by rw [X_Model_23, List.length_set, X_Model_22_len]
def D_Model_22 (n : Nat) : List dE := D_Model_21 n ++ [dA 0 120]
theorem D_Model_22_len {n : Nat} : (D_Model_22 n).length = 22 := by rw [D_Model_22, List.length_append, D_Model_21_len]; rfl
def X_Model_24 (n : Nat) : List dV := (X_Model_23 n).set 33 (4, n + 21)
theorem X_Model_24_len {n : Nat} : (X_Model_24 n).length = 82 := by rw [X_Model_24, List.length_set, X_Model_23_len]
def D_Model_23 (n : Nat) : List dE := D_Model_22 n ++ [dA 0 120]
theorem D_Model_23_len {n : Nat} : (D_Model_23 n).length = 23 := by rw [D_Model_23, List.length_append, D_Model_22_len]; rfl
def X_Model_25 (n : Nat) : List dV := (X_Model_24 n).set 34 (4, n + 22)
theorem X_Model_25_len {n : Nat} : (X_Model_25 n).length = 82 := by rw [X_Model_25, List.length_set, X_Model_24_len]
def D_Model_24 (n : Nat) : List dE := D_Model_23 n ++ [dA 0 120]
theorem D_Model_24_len {n : Nat} : (D_Model_24 n).length = 24 := by rw [D_Model_24, List.length_append, D_Model_23_len]; rfl
def X_Model_26 (n : Nat) : List dV := (X_Model_25 n).set 35 (4, n + 23)
theorem X_Model_26_len {n : Nat} : (X_Model_26 n).length = 82 := by rw [X_Model_26, List.length_set, X_Model_25_len]
def D_Model_25 (n : Nat) : List dE := D_Model_24 n ++ [dA 0 120]
theorem D_Model_25_len {n : Nat} : (D_Model_25 n).length = 25 := by rw [D_Model_25, List.length_append, D_Model_24_len]; rfl
def X_Model_27 (n : Nat) : List dV := (X_Model_26 n).set 36 (4, n + 24)
theorem X_Model_27_len {n : Nat} : (X_Model_27 n).length = 82 := by rw [X_Model_27, List.length_set, X_Model_26_len]
def D_Model_26 (n : Nat) : List dE := D_Model_25 n ++ [dA 1 480]
theorem D_Model_26_len {n : Nat} : (D_Model_26 n).length = 26 := by rw [D_Model_26, List.length_append, D_Model_25_len]; rfl
def X_Model_28 (n : Nat) : List dV := (X_Model_27 n).set 37 (4, n + 25)
theorem X_Model_28_len {n : Nat} : (X_Model_28 n).length = 82 := by rw [X_Model_28, List.length_set, X_Model_27_len]
def D_Model_27 (n : Nat) : List dE := D_Model_26 n ++ [dA 1 480]
theorem D_Model_27_len {n : Nat} : (D_Model_27 n).length = 27 := by rw [D_Model_27, List.length_append, D_Model_26_len]; rfl
def X_Model_29 (n : Nat) : List dV := (X_Model_28 n).set 38 (4, n + 26)
theorem X_Model_29_len {n : Nat} : (X_Model_29 n).length = 82 := by rw [X_Model_29, List.length_set, X_Model_28_len]
def D_Model_28 (n : Nat) : List dE := D_Model_27 n ++ [dA 0 480]
theorem D_Model_28_len {n : Nat} : (D_Model_28 n).length = 28 := by rw [D_Model_28, List.length_append, D_Model_27_len]; rfl
def X_Model_30 (n : Nat) : List dV := (X_Model_29 n).set 39 (4, n + 27)
theorem X_Model_30_len {n : Nat} : (X_Model_30 n).length = 82 := by rw [X_Model_30, List.length_set, X_Model_29_len]
def D_Model_29 (n : Nat) : List dE := D_Model_28 n ++ [dA 0 480]
theorem D_Model_29_len {n : Nat} : (D_Model_29 n).length = 29 := by rw [D_Model_29, List.length_append, D_Model_28_len]; rfl
def X_Model_31 (n : Nat) : List dV := (X_Model_30 n).set 40 (4, n + 28)
theorem X_Model_31_len {n : Nat} : (X_Model_31 n).length = 82 := by rw [X_Model_31, List.length_set, X_Model_30_len]
def D_Model_30 (n : Nat) : List dE := D_Model_29 n ++ [dA 0 480]
theorem D_Model_30_len {n : Nat} : (D_Model_30 n).length = 30 := by rw [D_Model_30, List.length_append, D_Model_29_len]; rfl
def X_Model_32 (n : Nat) : List dV := (X_Model_31 n).set 41 (4, n + 29)
theorem X_Model_32_len {n : Nat} : (X_Model_32 n).length = 82 := by rw [X_Model_32, List.length_set, X_Model_31_len]
def D_Model_31 (n : Nat) : List dE := D_Model_30 n ++ [dA 0 480]
theorem D_Model_31_len {n : Nat} : (D_Model_31 n).length = 31 := by rw [D_Model_31, List.length_append, D_Model_30_len]; rfl
def X_Model_33 (n : Nat) : List dV := (X_Model_32 n).set 42 (4, n + 30)
theorem X_Model_33_len {n : Nat} : (X_Model_33 n).length = 82 := by rw [X_Model_33, List.length_set, X_Model_32_len]
def D_Model_32 (n : Nat) : List dE := D_Model_31 n ++ [dA 0 480]
theorem D_Model_32_len {n : Nat} : (D_Model_32 n).length = 32 := by rw [D_Model_32, List.length_append, D_Model_31_len]; rfl
def X_Model_34 (n : Nat) : List dV := (X_Model_33 n).set 43 (4, n + 31)
theorem X_Model_34_len {n : Nat} : (X_Model_34 n).length = 82 := by rw [X_Model_34, List.length_set, X_Model_33_len]
def D_Model_33 (n : Nat) : List dE := D_Model_32 n ++ [dA 0 480]
theorem D_Model_33_len {n : Nat} : (D_Model_33 n).length = 33 := by rw [D_Model_33, List.length_append, D_Model_32_len]; rfl
def X_Model_35 (n : Nat) : List dV := (X_Model_34 n).set 44 (4, n + 32)
theorem X_Model_35_len {n : Nat} : (X_Model_35 n).length = 82 := by rw [X_Model_35, List.length_set, X_Model_34_len]
def D_Model_34 (n : Nat) : List dE := D_Model_33 n ++ [dA 1 360]
theorem D_Model_34_len {n : Nat} : (D_Model_34 n).length = 34 := by rw [D_Model_34, List.length_append, D_Model_33_len]; rfl
def X_Model_36 (n : Nat) : List dV := (X_Model_35 n).set 45 (4, n + 33)
theorem X_Model_36_len {n : Nat} : (X_Model_36 n).length = 82 := by rw [X_Model_36, List.length_set, X_Model_35_len]
def D_Model_35 (n : Nat) : List dE := D_Model_34 n ++ [dA 1 48]
theorem D_Model_35_len {n : Nat} : (D_Model_35 n).length = 35 := by rw [D_Model_35, List.length_append, D_Model_34_len]; rfl
def X_Model_37 (n : Nat) : List dV := (X_Model_36 n).set 46 (4, n + 34)
theorem X_Model_37_len {n : Nat} : (X_Model_37 n).length = 82 := by rw [X_Model_37, List.length_set, X_Model_36_len]
def D_Model_36 (n : Nat) : List dE := D_Model_35 n ++ [dA 1 48]
theorem D_Model_36_len {n : Nat} : (D_Model_36 n).length = 36 := by rw [D_Model_36, List.length_append, D_Model_35_len]; rfl
def X_Model_38 (n : Nat) : List dV := (X_Model_37 n).set 47 (4, n + 35)
theorem X_Model_38_len {n : Nat} : (X_Model_38 n).length = 82 := by rw [X_Model_38, List.length_set, X_Model_37_len]
def D_Model_37 (n : Nat) : List dE := D_Model_36 n ++ [dA 0 48]
theorem D_Model_37_len {n : Nat} : (D_Model_37 n).length = 37 := by rw [D_Model_37, List.length_append, D_Model_36_len]; rfl
def X_Model_39 (n : Nat) : List dV := (X_Model_38 n).set 48 (4, n + 36)
theorem X_Model_39_len {n : Nat} : (X_Model_39 n).length = 82 := by rw [X_Model_39, List.length_set, X_Model_38_len]
def D_Model_38 (n : Nat) : List dE := D_Model_37 n ++ [dA 0 48]
theorem D_Model_38_len {n : Nat} : (D_Model_38 n).length = 38 := by rw [D_Model_38, List.length_append, D_Model_37_len]; rfl
def X_Model_40 (n : Nat) : List dV := (X_Model_39 n).set 49 (4, n + 37)
theorem X_Model_40_len {n : Nat} : (X_Model_40 n).length = 82 := by rw [X_Model_40, List.length_set, X_Model_39_len]
section
variable {p : Program} {l : Launch} {e : Env} {s : State} {m : MethodId} {args : Array Value} {below : List Frame} {meth : Method} {c : Code} {Q : State → Prop} {cx : zX} {n t : Nat} {f : Nat → va_E}
theorem v_Model_0 (I : b_In cx prog_14_method_1_code 1 RX12 p s m args meth c) (ht : t < n) {H : Heap} {locs : List Loc} {ls : Array Slot} (hl : lv_has ls 1 [(0, .ref (b_a cx t))]) (hB : x_W cx n t f (D_Model_0 n) 12 (X_Model_0 n) H) (hS : va_S (z_A cx) s.heap H locs)
    (kk : ∀ (H : Heap) (locs : List Loc), x_W cx n t f (D_Model_8 n) 12 (X_Model_10 n) H → va_S (z_A cx) s.heap H locs → W p l e (b_rm 1 13 65 41825) s m args below meth c H locs 8 8431 Q (F0 m 79 ls [])) : W p l e (b_rm 1 13 65 41825) s m args below meth c H locs 0 0 Q (F0 m 4 ls []) := by
  have hx := I.1
  have hb := I.2.1
  refine lv_aload_n hx hb (show decode prog_14_method_1_code 4 = .ok (.aload_n 0, 1) by decide +kernel) rfl (lv_at hl 0 rfl) ?_
  refine lv_sipush hx hb (show decode prog_14_method_1_code 5 = .ok (.sipush (1200), 3) by decide +kernel) (v := nI 1200) (by decide +kernel) ?_
  refine x_newa I hS hB ht D_Model_0_len (atype := .int) (zw (by decide +kernel) rfl) 0 rfl (fun C h => by cases h) 1200 (fun cA => rfl) (by decide +kernel) (by decide +kernel) (by decide) (Nat.le_of_ble_eq_true rfl) (Nat.le_of_ble_eq_true rfl) (show decode prog_14_method_1_code 8 = .ok (.newarray .int, 2) by decide +kernel) (fun H hB hS => ?_)
  have hB : x_W cx n t f (D_Model_1 n) 12 (X_Model_0 n) H := hB
  refine x_put I hS hB ht rfl 0 (by decide) (index := 7) (zw (by decide +kernel) rfl) rfl (ty := .array (.int)) (4, n + 0) rfl (by decide +kernel) rfl rfl (by rw [X_Model_0_len]; decide) (show decode prog_14_method_1_code 10 = .ok (.putfield 7, 3) by decide +kernel) (fun H locs hB hS => ?_)
  have hB : x_W cx n t f (D_Model_1 n) 12 (X_Model_1 n) H := hB
  refine lv_aload_n hx hb (show decode prog_14_method_1_code 13 = .ok (.aload_n 0, 1) by decide +kernel) rfl (lv_at hl 0 rfl) ?_
  refine lv_sipush hx hb (show decode prog_14_method_1_code 14 = .ok (.sipush (7200), 3) by decide +kernel) (v := nI 7200) (by decide +kernel) ?_
  refine x_newa I hS hB ht D_Model_1_len (atype := .int) (zw (by decide +kernel) rfl) 0 rfl (fun C h => by cases h) 7200 (fun cA => rfl) (by decide +kernel) (by decide +kernel) (by decide) (Nat.le_of_ble_eq_true rfl) (Nat.le_of_ble_eq_true rfl) (show decode prog_14_method_1_code 17 = .ok (.newarray .int, 2) by decide +kernel) (fun H hB hS => ?_)
  have hB : x_W cx n t f (D_Model_2 n) 12 (X_Model_1 n) H := hB
  refine x_put I hS hB ht rfl 2 (by decide) (index := 13) (zw (by decide +kernel) rfl) rfl (ty := .array (.int)) (4, n + 1) rfl (by decide +kernel) rfl rfl (by rw [X_Model_1_len]; decide) (show decode prog_14_method_1_code 19 = .ok (.putfield 13, 3) by decide +kernel) (fun H locs hB hS => ?_)
  have hB : x_W cx n t f (D_Model_2 n) 12 (X_Model_2 n) H := hB
  refine lv_aload_n hx hb (show decode prog_14_method_1_code 22 = .ok (.aload_n 0, 1) by decide +kernel) rfl (lv_at hl 0 rfl) ?_
  refine lv_bipush hx hb (show decode prog_14_method_1_code 23 = .ok (.bipush (6), 2) by decide +kernel) (v := nI 6) (by decide +kernel) ?_
  refine x_newa I hS hB ht D_Model_2_len (atype := .int) (zw (by decide +kernel) rfl) 0 rfl (fun C h => by cases h) 6 (fun cA => rfl) (by decide +kernel) (by decide +kernel) (by decide) (Nat.le_of_ble_eq_true rfl) (Nat.le_of_ble_eq_true rfl) (show decode prog_14_method_1_code 25 = .ok (.newarray .int, 2) by decide +kernel) (fun H hB hS => ?_)
  have hB : x_W cx n t f (D_Model_3 n) 12 (X_Model_2 n) H := hB
  refine x_put I hS hB ht rfl 3 (by decide) (index := 16) (zw (by decide +kernel) rfl) rfl (ty := .array (.int)) (4, n + 2) rfl (by decide +kernel) rfl rfl (by rw [X_Model_2_len]; decide) (show decode prog_14_method_1_code 27 = .ok (.putfield 16, 3) by decide +kernel) (fun H locs hB hS => ?_)
  have hB : x_W cx n t f (D_Model_3 n) 12 (X_Model_3 n) H := hB
  refine lv_aload_n hx hb (show decode prog_14_method_1_code 30 = .ok (.aload_n 0, 1) by decide +kernel) rfl (lv_at hl 0 rfl) ?_
  refine lv_bipush hx hb (show decode prog_14_method_1_code 31 = .ok (.bipush (8), 2) by decide +kernel) (v := nI 8) (by decide +kernel) ?_
  refine x_newa I hS hB ht D_Model_3_len (atype := .int) (zw (by decide +kernel) rfl) 0 rfl (fun C h => by cases h) 8 (fun cA => rfl) (by decide +kernel) (by decide +kernel) (by decide) (Nat.le_of_ble_eq_true rfl) (Nat.le_of_ble_eq_true rfl) (show decode prog_14_method_1_code 33 = .ok (.newarray .int, 2) by decide +kernel) (fun H hB hS => ?_)
  have hB : x_W cx n t f (D_Model_4 n) 12 (X_Model_3 n) H := hB
  refine x_put I hS hB ht rfl 10 (by decide) (index := 19) (zw (by decide +kernel) rfl) rfl (ty := .array (.int)) (4, n + 3) rfl (by decide +kernel) rfl rfl (by rw [X_Model_3_len]; decide) (show decode prog_14_method_1_code 35 = .ok (.putfield 19, 3) by decide +kernel) (fun H locs hB hS => ?_)
  have hB : x_W cx n t f (D_Model_4 n) 12 (X_Model_4 n) H := hB
  refine lv_aload_n hx hb (show decode prog_14_method_1_code 38 = .ok (.aload_n 0, 1) by decide +kernel) rfl (lv_at hl 0 rfl) ?_
  refine lv_bipush hx hb (show decode prog_14_method_1_code 39 = .ok (.bipush (8), 2) by decide +kernel) (v := nI 8) (by decide +kernel) ?_
  refine x_newa I hS hB ht D_Model_4_len (atype := .int) (zw (by decide +kernel) rfl) 0 rfl (fun C h => by cases h) 8 (fun cA => rfl) (by decide +kernel) (by decide +kernel) (by decide) (Nat.le_of_ble_eq_true rfl) (Nat.le_of_ble_eq_true rfl) (show decode prog_14_method_1_code 41 = .ok (.newarray .int, 2) by decide +kernel) (fun H hB hS => ?_)
  have hB : x_W cx n t f (D_Model_5 n) 12 (X_Model_4 n) H := hB
  refine x_put I hS hB ht rfl 11 (by decide) (index := 22) (zw (by decide +kernel) rfl) rfl (ty := .array (.int)) (4, n + 4) rfl (by decide +kernel) rfl rfl (by rw [X_Model_4_len]; decide) (show decode prog_14_method_1_code 43 = .ok (.putfield 22, 3) by decide +kernel) (fun H locs hB hS => ?_)
  have hB : x_W cx n t f (D_Model_5 n) 12 (X_Model_5 n) H := hB
  refine lv_aload_n hx hb (show decode prog_14_method_1_code 46 = .ok (.aload_n 0, 1) by decide +kernel) rfl (lv_at hl 0 rfl) ?_
  refine lv_bipush hx hb (show decode prog_14_method_1_code 47 = .ok (.bipush (-5), 2) by decide +kernel) (v := -(nI 5)) (by decide +kernel) ?_
  refine x_put I hS hB ht rfl 13 (by decide) (index := 25) (zw (by decide +kernel) rfl) rfl (ty := .int) (1, 5) rfl (by decide +kernel) rfl rfl (by rw [X_Model_5_len]; decide) (show decode prog_14_method_1_code 49 = .ok (.putfield 25, 3) by decide +kernel) (fun H locs hB hS => ?_)
  have hB : x_W cx n t f (D_Model_5 n) 12 (X_Model_6 n) H := hB
  refine lv_aload_n hx hb (show decode prog_14_method_1_code 52 = .ok (.aload_n 0, 1) by decide +kernel) rfl (lv_at hl 0 rfl) ?_
  refine lv_bipush hx hb (show decode prog_14_method_1_code 53 = .ok (.bipush (-5), 2) by decide +kernel) (v := -(nI 5)) (by decide +kernel) ?_
  refine x_put I hS hB ht rfl 14 (by decide) (index := 29) (zw (by decide +kernel) rfl) rfl (ty := .int) (1, 5) rfl (by decide +kernel) rfl rfl (by rw [X_Model_6_len]; decide) (show decode prog_14_method_1_code 55 = .ok (.putfield 29, 3) by decide +kernel) (fun H locs hB hS => ?_)
  have hB : x_W cx n t f (D_Model_5 n) 12 (X_Model_7 n) H := hB
  refine lv_aload_n hx hb (show decode prog_14_method_1_code 58 = .ok (.aload_n 0, 1) by decide +kernel) rfl (lv_at hl 0 rfl) ?_
  refine lv_iconst hx hb (show decode prog_14_method_1_code 59 = .ok (.iconst (3), 1) by decide +kernel) (v := nI 3) (by decide +kernel) ?_
  refine x_newa I hS hB ht D_Model_5_len (atype := .boolean) (zw (by decide +kernel) rfl) 3 rfl (fun C h => by cases h) 3 (fun cA => rfl) (by decide +kernel) (by decide +kernel) (by decide) (Nat.le_of_ble_eq_true rfl) (Nat.le_of_ble_eq_true rfl) (show decode prog_14_method_1_code 60 = .ok (.newarray .boolean, 2) by decide +kernel) (fun H hB hS => ?_)
  have hB : x_W cx n t f (D_Model_6 n) 12 (X_Model_7 n) H := hB
  refine x_put I hS hB ht rfl 16 (by decide) (index := 32) (zw (by decide +kernel) rfl) rfl (ty := .array (.boolean)) (4, n + 5) rfl (by decide +kernel) rfl rfl (by rw [X_Model_7_len]; decide) (show decode prog_14_method_1_code 62 = .ok (.putfield 32, 3) by decide +kernel) (fun H locs hB hS => ?_)
  have hB : x_W cx n t f (D_Model_6 n) 12 (X_Model_8 n) H := hB
  refine lv_aload_n hx hb (show decode prog_14_method_1_code 65 = .ok (.aload_n 0, 1) by decide +kernel) rfl (lv_at hl 0 rfl) ?_
  refine lv_iconst hx hb (show decode prog_14_method_1_code 66 = .ok (.iconst (3), 1) by decide +kernel) (v := nI 3) (by decide +kernel) ?_
  refine x_newa I hS hB ht D_Model_6_len (atype := .int) (zw (by decide +kernel) rfl) 0 rfl (fun C h => by cases h) 3 (fun cA => rfl) (by decide +kernel) (by decide +kernel) (by decide) (Nat.le_of_ble_eq_true rfl) (Nat.le_of_ble_eq_true rfl) (show decode prog_14_method_1_code 67 = .ok (.newarray .int, 2) by decide +kernel) (fun H hB hS => ?_)
  have hB : x_W cx n t f (D_Model_7 n) 12 (X_Model_8 n) H := hB
  refine x_put I hS hB ht rfl 17 (by decide) (index := 36) (zw (by decide +kernel) rfl) rfl (ty := .array (.int)) (4, n + 6) rfl (by decide +kernel) rfl rfl (by rw [X_Model_8_len]; decide) (show decode prog_14_method_1_code 69 = .ok (.putfield 36, 3) by decide +kernel) (fun H locs hB hS => ?_)
  have hB : x_W cx n t f (D_Model_7 n) 12 (X_Model_9 n) H := hB
  refine lv_aload_n hx hb (show decode prog_14_method_1_code 72 = .ok (.aload_n 0, 1) by decide +kernel) rfl (lv_at hl 0 rfl) ?_
  refine lv_iconst hx hb (show decode prog_14_method_1_code 73 = .ok (.iconst (3), 1) by decide +kernel) (v := nI 3) (by decide +kernel) ?_
  refine x_newa I hS hB ht D_Model_7_len (atype := .int) (zw (by decide +kernel) rfl) 0 rfl (fun C h => by cases h) 3 (fun cA => rfl) (by decide +kernel) (by decide +kernel) (by decide) (Nat.le_of_ble_eq_true rfl) (Nat.le_of_ble_eq_true rfl) (show decode prog_14_method_1_code 74 = .ok (.newarray .int, 2) by decide +kernel) (fun H hB hS => ?_)
  have hB : x_W cx n t f (D_Model_8 n) 12 (X_Model_9 n) H := hB
  refine x_put I hS hB ht rfl 18 (by decide) (index := 39) (zw (by decide +kernel) rfl) rfl (ty := .array (.int)) (4, n + 7) rfl (by decide +kernel) rfl rfl (by rw [X_Model_9_len]; decide) (show decode prog_14_method_1_code 76 = .ok (.putfield 39, 3) by decide +kernel) (fun H locs hB hS => ?_)
  have hB : x_W cx n t f (D_Model_8 n) 12 (X_Model_10 n) H := hB
  exact b_cs rfl rfl (kk H locs hB hS)
theorem v_Model_1 (I : b_In cx prog_14_method_1_code 1 RX12 p s m args meth c) (ht : t < n) {H : Heap} {locs : List Loc} {ls : Array Slot} (hl : lv_has ls 1 [(0, .ref (b_a cx t))]) (hB : x_W cx n t f (D_Model_8 n) 12 (X_Model_10 n) H) (hS : va_S (z_A cx) s.heap H locs)
    (kk : ∀ (H : Heap) (locs : List Loc), x_W cx n t f (D_Model_18 n) 12 (X_Model_20 n) H → va_S (z_A cx) s.heap H locs → W p l e (b_rm 1 13 65 41825) s m args below meth c H locs 18 9280 Q (F0 m 156 ls [])) : W p l e (b_rm 1 13 65 41825) s m args below meth c H locs 8 8431 Q (F0 m 79 ls []) := by
  have hx := I.1
  have hb := I.2.1
  refine lv_aload_n hx hb (show decode prog_14_method_1_code 79 = .ok (.aload_n 0, 1) by decide +kernel) rfl (lv_at hl 0 rfl) ?_
  refine lv_iconst hx hb (show decode prog_14_method_1_code 80 = .ok (.iconst (3), 1) by decide +kernel) (v := nI 3) (by decide +kernel) ?_
  refine x_newa I hS hB ht D_Model_8_len (atype := .int) (zw (by decide +kernel) rfl) 0 rfl (fun C h => by cases h) 3 (fun cA => rfl) (by decide +kernel) (by decide +kernel) (by decide) (Nat.le_of_ble_eq_true rfl) (Nat.le_of_ble_eq_true rfl) (show decode prog_14_method_1_code 81 = .ok (.newarray .int, 2) by decide +kernel) (fun H hB hS => ?_)
  have hB : x_W cx n t f (D_Model_9 n) 12 (X_Model_10 n) H := hB
  refine x_put I hS hB ht rfl 19 (by decide) (index := 42) (zw (by decide +kernel) rfl) rfl (ty := .array (.int)) (4, n + 8) rfl (by decide +kernel) rfl rfl (by rw [X_Model_10_len]; decide) (show decode prog_14_method_1_code 83 = .ok (.putfield 42, 3) by decide +kernel) (fun H locs hB hS => ?_)
  have hB : x_W cx n t f (D_Model_9 n) 12 (X_Model_11 n) H := hB
  refine lv_aload_n hx hb (show decode prog_14_method_1_code 86 = .ok (.aload_n 0, 1) by decide +kernel) rfl (lv_at hl 0 rfl) ?_
  refine lv_iconst hx hb (show decode prog_14_method_1_code 87 = .ok (.iconst (3), 1) by decide +kernel) (v := nI 3) (by decide +kernel) ?_
  refine x_newa I hS hB ht D_Model_9_len (atype := .int) (zw (by decide +kernel) rfl) 0 rfl (fun C h => by cases h) 3 (fun cA => rfl) (by decide +kernel) (by decide +kernel) (by decide) (Nat.le_of_ble_eq_true rfl) (Nat.le_of_ble_eq_true rfl) (show decode prog_14_method_1_code 88 = .ok (.newarray .int, 2) by decide +kernel) (fun H hB hS => ?_)
  have hB : x_W cx n t f (D_Model_10 n) 12 (X_Model_11 n) H := hB
  refine x_put I hS hB ht rfl 20 (by decide) (index := 45) (zw (by decide +kernel) rfl) rfl (ty := .array (.int)) (4, n + 9) rfl (by decide +kernel) rfl rfl (by rw [X_Model_11_len]; decide) (show decode prog_14_method_1_code 90 = .ok (.putfield 45, 3) by decide +kernel) (fun H locs hB hS => ?_)
  have hB : x_W cx n t f (D_Model_10 n) 12 (X_Model_12 n) H := hB
  refine lv_aload_n hx hb (show decode prog_14_method_1_code 93 = .ok (.aload_n 0, 1) by decide +kernel) rfl (lv_at hl 0 rfl) ?_
  refine lv_iconst hx hb (show decode prog_14_method_1_code 94 = .ok (.iconst (3), 1) by decide +kernel) (v := nI 3) (by decide +kernel) ?_
  refine x_newa I hS hB ht D_Model_10_len (atype := .int) (zw (by decide +kernel) rfl) 0 rfl (fun C h => by cases h) 3 (fun cA => rfl) (by decide +kernel) (by decide +kernel) (by decide) (Nat.le_of_ble_eq_true rfl) (Nat.le_of_ble_eq_true rfl) (show decode prog_14_method_1_code 95 = .ok (.newarray .int, 2) by decide +kernel) (fun H hB hS => ?_)
  have hB : x_W cx n t f (D_Model_11 n) 12 (X_Model_12 n) H := hB
  refine x_put I hS hB ht rfl 21 (by decide) (index := 48) (zw (by decide +kernel) rfl) rfl (ty := .array (.int)) (4, n + 10) rfl (by decide +kernel) rfl rfl (by rw [X_Model_12_len]; decide) (show decode prog_14_method_1_code 97 = .ok (.putfield 48, 3) by decide +kernel) (fun H locs hB hS => ?_)
  have hB : x_W cx n t f (D_Model_11 n) 12 (X_Model_13 n) H := hB
  refine lv_aload_n hx hb (show decode prog_14_method_1_code 100 = .ok (.aload_n 0, 1) by decide +kernel) rfl (lv_at hl 0 rfl) ?_
  refine lv_bipush hx hb (show decode prog_14_method_1_code 101 = .ok (.bipush (120), 2) by decide +kernel) (v := nI 120) (by decide +kernel) ?_
  refine x_newa I hS hB ht D_Model_11_len (atype := .long) (zw (by decide +kernel) rfl) 1 rfl (fun C h => by cases h) 120 (fun cA => rfl) (by decide +kernel) (by decide +kernel) (by decide) (Nat.le_of_ble_eq_true rfl) (Nat.le_of_ble_eq_true rfl) (show decode prog_14_method_1_code 103 = .ok (.newarray .long, 2) by decide +kernel) (fun H hB hS => ?_)
  have hB : x_W cx n t f (D_Model_12 n) 12 (X_Model_13 n) H := hB
  refine x_put I hS hB ht rfl 23 (by decide) (index := 51) (zw (by decide +kernel) rfl) rfl (ty := .array (.long)) (4, n + 11) rfl (by decide +kernel) rfl rfl (by rw [X_Model_13_len]; decide) (show decode prog_14_method_1_code 105 = .ok (.putfield 51, 3) by decide +kernel) (fun H locs hB hS => ?_)
  have hB : x_W cx n t f (D_Model_12 n) 12 (X_Model_14 n) H := hB
  refine lv_aload_n hx hb (show decode prog_14_method_1_code 108 = .ok (.aload_n 0, 1) by decide +kernel) rfl (lv_at hl 0 rfl) ?_
  refine lv_bipush hx hb (show decode prog_14_method_1_code 109 = .ok (.bipush (120), 2) by decide +kernel) (v := nI 120) (by decide +kernel) ?_
  refine x_newa I hS hB ht D_Model_12_len (atype := .int) (zw (by decide +kernel) rfl) 0 rfl (fun C h => by cases h) 120 (fun cA => rfl) (by decide +kernel) (by decide +kernel) (by decide) (Nat.le_of_ble_eq_true rfl) (Nat.le_of_ble_eq_true rfl) (show decode prog_14_method_1_code 111 = .ok (.newarray .int, 2) by decide +kernel) (fun H hB hS => ?_)
  have hB : x_W cx n t f (D_Model_13 n) 12 (X_Model_14 n) H := hB
  refine x_put I hS hB ht rfl 24 (by decide) (index := 55) (zw (by decide +kernel) rfl) rfl (ty := .array (.int)) (4, n + 12) rfl (by decide +kernel) rfl rfl (by rw [X_Model_14_len]; decide) (show decode prog_14_method_1_code 113 = .ok (.putfield 55, 3) by decide +kernel) (fun H locs hB hS => ?_)
  have hB : x_W cx n t f (D_Model_13 n) 12 (X_Model_15 n) H := hB
  refine lv_aload_n hx hb (show decode prog_14_method_1_code 116 = .ok (.aload_n 0, 1) by decide +kernel) rfl (lv_at hl 0 rfl) ?_
  refine lv_bipush hx hb (show decode prog_14_method_1_code 117 = .ok (.bipush (120), 2) by decide +kernel) (v := nI 120) (by decide +kernel) ?_
  refine x_newa I hS hB ht D_Model_13_len (atype := .int) (zw (by decide +kernel) rfl) 0 rfl (fun C h => by cases h) 120 (fun cA => rfl) (by decide +kernel) (by decide +kernel) (by decide) (Nat.le_of_ble_eq_true rfl) (Nat.le_of_ble_eq_true rfl) (show decode prog_14_method_1_code 119 = .ok (.newarray .int, 2) by decide +kernel) (fun H hB hS => ?_)
  have hB : x_W cx n t f (D_Model_14 n) 12 (X_Model_15 n) H := hB
  refine x_put I hS hB ht rfl 25 (by decide) (index := 58) (zw (by decide +kernel) rfl) rfl (ty := .array (.int)) (4, n + 13) rfl (by decide +kernel) rfl rfl (by rw [X_Model_15_len]; decide) (show decode prog_14_method_1_code 121 = .ok (.putfield 58, 3) by decide +kernel) (fun H locs hB hS => ?_)
  have hB : x_W cx n t f (D_Model_14 n) 12 (X_Model_16 n) H := hB
  refine lv_aload_n hx hb (show decode prog_14_method_1_code 124 = .ok (.aload_n 0, 1) by decide +kernel) rfl (lv_at hl 0 rfl) ?_
  refine lv_bipush hx hb (show decode prog_14_method_1_code 125 = .ok (.bipush (120), 2) by decide +kernel) (v := nI 120) (by decide +kernel) ?_
  refine x_newa I hS hB ht D_Model_14_len (atype := .int) (zw (by decide +kernel) rfl) 0 rfl (fun C h => by cases h) 120 (fun cA => rfl) (by decide +kernel) (by decide +kernel) (by decide) (Nat.le_of_ble_eq_true rfl) (Nat.le_of_ble_eq_true rfl) (show decode prog_14_method_1_code 127 = .ok (.newarray .int, 2) by decide +kernel) (fun H hB hS => ?_)
  have hB : x_W cx n t f (D_Model_15 n) 12 (X_Model_16 n) H := hB
  refine x_put I hS hB ht rfl 26 (by decide) (index := 61) (zw (by decide +kernel) rfl) rfl (ty := .array (.int)) (4, n + 14) rfl (by decide +kernel) rfl rfl (by rw [X_Model_16_len]; decide) (show decode prog_14_method_1_code 129 = .ok (.putfield 61, 3) by decide +kernel) (fun H locs hB hS => ?_)
  have hB : x_W cx n t f (D_Model_15 n) 12 (X_Model_17 n) H := hB
  refine lv_aload_n hx hb (show decode prog_14_method_1_code 132 = .ok (.aload_n 0, 1) by decide +kernel) rfl (lv_at hl 0 rfl) ?_
  refine lv_bipush hx hb (show decode prog_14_method_1_code 133 = .ok (.bipush (120), 2) by decide +kernel) (v := nI 120) (by decide +kernel) ?_
  refine x_newa I hS hB ht D_Model_15_len (atype := .int) (zw (by decide +kernel) rfl) 0 rfl (fun C h => by cases h) 120 (fun cA => rfl) (by decide +kernel) (by decide +kernel) (by decide) (Nat.le_of_ble_eq_true rfl) (Nat.le_of_ble_eq_true rfl) (show decode prog_14_method_1_code 135 = .ok (.newarray .int, 2) by decide +kernel) (fun H hB hS => ?_)
  have hB : x_W cx n t f (D_Model_16 n) 12 (X_Model_17 n) H := hB
  refine x_put I hS hB ht rfl 27 (by decide) (index := 64) (zw (by decide +kernel) rfl) rfl (ty := .array (.int)) (4, n + 15) rfl (by decide +kernel) rfl rfl (by rw [X_Model_17_len]; decide) (show decode prog_14_method_1_code 137 = .ok (.putfield 64, 3) by decide +kernel) (fun H locs hB hS => ?_)
  have hB : x_W cx n t f (D_Model_16 n) 12 (X_Model_18 n) H := hB
  refine lv_aload_n hx hb (show decode prog_14_method_1_code 140 = .ok (.aload_n 0, 1) by decide +kernel) rfl (lv_at hl 0 rfl) ?_
  refine lv_bipush hx hb (show decode prog_14_method_1_code 141 = .ok (.bipush (120), 2) by decide +kernel) (v := nI 120) (by decide +kernel) ?_
  refine x_newa I hS hB ht D_Model_16_len (atype := .int) (zw (by decide +kernel) rfl) 0 rfl (fun C h => by cases h) 120 (fun cA => rfl) (by decide +kernel) (by decide +kernel) (by decide) (Nat.le_of_ble_eq_true rfl) (Nat.le_of_ble_eq_true rfl) (show decode prog_14_method_1_code 143 = .ok (.newarray .int, 2) by decide +kernel) (fun H hB hS => ?_)
  have hB : x_W cx n t f (D_Model_17 n) 12 (X_Model_18 n) H := hB
  refine x_put I hS hB ht rfl 28 (by decide) (index := 67) (zw (by decide +kernel) rfl) rfl (ty := .array (.int)) (4, n + 16) rfl (by decide +kernel) rfl rfl (by rw [X_Model_18_len]; decide) (show decode prog_14_method_1_code 145 = .ok (.putfield 67, 3) by decide +kernel) (fun H locs hB hS => ?_)
  have hB : x_W cx n t f (D_Model_17 n) 12 (X_Model_19 n) H := hB
  refine lv_aload_n hx hb (show decode prog_14_method_1_code 148 = .ok (.aload_n 0, 1) by decide +kernel) rfl (lv_at hl 0 rfl) ?_
  refine lv_bipush hx hb (show decode prog_14_method_1_code 149 = .ok (.bipush (120), 2) by decide +kernel) (v := nI 120) (by decide +kernel) ?_
  refine x_newa I hS hB ht D_Model_17_len (atype := .int) (zw (by decide +kernel) rfl) 0 rfl (fun C h => by cases h) 120 (fun cA => rfl) (by decide +kernel) (by decide +kernel) (by decide) (Nat.le_of_ble_eq_true rfl) (Nat.le_of_ble_eq_true rfl) (show decode prog_14_method_1_code 151 = .ok (.newarray .int, 2) by decide +kernel) (fun H hB hS => ?_)
  have hB : x_W cx n t f (D_Model_18 n) 12 (X_Model_19 n) H := hB
  refine x_put I hS hB ht rfl 29 (by decide) (index := 70) (zw (by decide +kernel) rfl) rfl (ty := .array (.int)) (4, n + 17) rfl (by decide +kernel) rfl rfl (by rw [X_Model_19_len]; decide) (show decode prog_14_method_1_code 153 = .ok (.putfield 70, 3) by decide +kernel) (fun H locs hB hS => ?_)
  have hB : x_W cx n t f (D_Model_18 n) 12 (X_Model_20 n) H := hB
  exact b_cs rfl rfl (kk H locs hB hS)
theorem v_Model_2 (I : b_In cx prog_14_method_1_code 1 RX12 p s m args meth c) (ht : t < n) {H : Heap} {locs : List Loc} {ls : Array Slot} (hl : lv_has ls 1 [(0, .ref (b_a cx t))]) (hB : x_W cx n t f (D_Model_18 n) 12 (X_Model_20 n) H) (hS : va_S (z_A cx) s.heap H locs)
    (kk : ∀ (H : Heap) (locs : List Loc), x_W cx n t f (D_Model_28 n) 12 (X_Model_30 n) H → va_S (z_A cx) s.heap H locs → W p l e (b_rm 1 13 65 41825) s m args below meth c H locs 28 11560 Q (F0 m 239 ls [])) : W p l e (b_rm 1 13 65 41825) s m args below meth c H locs 18 9280 Q (F0 m 156 ls []) := by
  have hx := I.1
  have hb := I.2.1
  refine lv_aload_n hx hb (show decode prog_14_method_1_code 156 = .ok (.aload_n 0, 1) by decide +kernel) rfl (lv_at hl 0 rfl) ?_
  refine lv_bipush hx hb (show decode prog_14_method_1_code 157 = .ok (.bipush (120), 2) by decide +kernel) (v := nI 120) (by decide +kernel) ?_
  refine x_newa I hS hB ht D_Model_18_len (atype := .long) (zw (by decide +kernel) rfl) 1 rfl (fun C h => by cases h) 120 (fun cA => rfl) (by decide +kernel) (by decide +kernel) (by decide) (Nat.le_of_ble_eq_true rfl) (Nat.le_of_ble_eq_true rfl) (show decode prog_14_method_1_code 159 = .ok (.newarray .long, 2) by decide +kernel) (fun H hB hS => ?_)
  have hB : x_W cx n t f (D_Model_19 n) 12 (X_Model_20 n) H := hB
  refine x_put I hS hB ht rfl 30 (by decide) (index := 73) (zw (by decide +kernel) rfl) rfl (ty := .array (.long)) (4, n + 18) rfl (by decide +kernel) rfl rfl (by rw [X_Model_20_len]; decide) (show decode prog_14_method_1_code 161 = .ok (.putfield 73, 3) by decide +kernel) (fun H locs hB hS => ?_)
  have hB : x_W cx n t f (D_Model_19 n) 12 (X_Model_21 n) H := hB
  refine lv_aload_n hx hb (show decode prog_14_method_1_code 164 = .ok (.aload_n 0, 1) by decide +kernel) rfl (lv_at hl 0 rfl) ?_
  refine lv_bipush hx hb (show decode prog_14_method_1_code 165 = .ok (.bipush (120), 2) by decide +kernel) (v := nI 120) (by decide +kernel) ?_
  refine x_newa I hS hB ht D_Model_19_len (atype := .int) (zw (by decide +kernel) rfl) 0 rfl (fun C h => by cases h) 120 (fun cA => rfl) (by decide +kernel) (by decide +kernel) (by decide) (Nat.le_of_ble_eq_true rfl) (Nat.le_of_ble_eq_true rfl) (show decode prog_14_method_1_code 167 = .ok (.newarray .int, 2) by decide +kernel) (fun H hB hS => ?_)
  have hB : x_W cx n t f (D_Model_20 n) 12 (X_Model_21 n) H := hB
  refine x_put I hS hB ht rfl 31 (by decide) (index := 76) (zw (by decide +kernel) rfl) rfl (ty := .array (.int)) (4, n + 19) rfl (by decide +kernel) rfl rfl (by rw [X_Model_21_len]; decide) (show decode prog_14_method_1_code 169 = .ok (.putfield 76, 3) by decide +kernel) (fun H locs hB hS => ?_)
  have hB : x_W cx n t f (D_Model_20 n) 12 (X_Model_22 n) H := hB
  refine lv_aload_n hx hb (show decode prog_14_method_1_code 172 = .ok (.aload_n 0, 1) by decide +kernel) rfl (lv_at hl 0 rfl) ?_
  refine lv_bipush hx hb (show decode prog_14_method_1_code 173 = .ok (.bipush (120), 2) by decide +kernel) (v := nI 120) (by decide +kernel) ?_
  refine x_newa I hS hB ht D_Model_20_len (atype := .int) (zw (by decide +kernel) rfl) 0 rfl (fun C h => by cases h) 120 (fun cA => rfl) (by decide +kernel) (by decide +kernel) (by decide) (Nat.le_of_ble_eq_true rfl) (Nat.le_of_ble_eq_true rfl) (show decode prog_14_method_1_code 175 = .ok (.newarray .int, 2) by decide +kernel) (fun H hB hS => ?_)
  have hB : x_W cx n t f (D_Model_21 n) 12 (X_Model_22 n) H := hB
  refine x_put I hS hB ht rfl 32 (by decide) (index := 79) (zw (by decide +kernel) rfl) rfl (ty := .array (.int)) (4, n + 20) rfl (by decide +kernel) rfl rfl (by rw [X_Model_22_len]; decide) (show decode prog_14_method_1_code 177 = .ok (.putfield 79, 3) by decide +kernel) (fun H locs hB hS => ?_)
  have hB : x_W cx n t f (D_Model_21 n) 12 (X_Model_23 n) H := hB
  refine lv_aload_n hx hb (show decode prog_14_method_1_code 180 = .ok (.aload_n 0, 1) by decide +kernel) rfl (lv_at hl 0 rfl) ?_
  refine lv_bipush hx hb (show decode prog_14_method_1_code 181 = .ok (.bipush (120), 2) by decide +kernel) (v := nI 120) (by decide +kernel) ?_
  refine x_newa I hS hB ht D_Model_21_len (atype := .int) (zw (by decide +kernel) rfl) 0 rfl (fun C h => by cases h) 120 (fun cA => rfl) (by decide +kernel) (by decide +kernel) (by decide) (Nat.le_of_ble_eq_true rfl) (Nat.le_of_ble_eq_true rfl) (show decode prog_14_method_1_code 183 = .ok (.newarray .int, 2) by decide +kernel) (fun H hB hS => ?_)
  have hB : x_W cx n t f (D_Model_22 n) 12 (X_Model_23 n) H := hB
  refine x_put I hS hB ht rfl 33 (by decide) (index := 82) (zw (by decide +kernel) rfl) rfl (ty := .array (.int)) (4, n + 21) rfl (by decide +kernel) rfl rfl (by rw [X_Model_23_len]; decide) (show decode prog_14_method_1_code 185 = .ok (.putfield 82, 3) by decide +kernel) (fun H locs hB hS => ?_)
  have hB : x_W cx n t f (D_Model_22 n) 12 (X_Model_24 n) H := hB
  refine lv_aload_n hx hb (show decode prog_14_method_1_code 188 = .ok (.aload_n 0, 1) by decide +kernel) rfl (lv_at hl 0 rfl) ?_
  refine lv_bipush hx hb (show decode prog_14_method_1_code 189 = .ok (.bipush (120), 2) by decide +kernel) (v := nI 120) (by decide +kernel) ?_
  refine x_newa I hS hB ht D_Model_22_len (atype := .int) (zw (by decide +kernel) rfl) 0 rfl (fun C h => by cases h) 120 (fun cA => rfl) (by decide +kernel) (by decide +kernel) (by decide) (Nat.le_of_ble_eq_true rfl) (Nat.le_of_ble_eq_true rfl) (show decode prog_14_method_1_code 191 = .ok (.newarray .int, 2) by decide +kernel) (fun H hB hS => ?_)
  have hB : x_W cx n t f (D_Model_23 n) 12 (X_Model_24 n) H := hB
  refine x_put I hS hB ht rfl 34 (by decide) (index := 85) (zw (by decide +kernel) rfl) rfl (ty := .array (.int)) (4, n + 22) rfl (by decide +kernel) rfl rfl (by rw [X_Model_24_len]; decide) (show decode prog_14_method_1_code 193 = .ok (.putfield 85, 3) by decide +kernel) (fun H locs hB hS => ?_)
  have hB : x_W cx n t f (D_Model_23 n) 12 (X_Model_25 n) H := hB
  refine lv_aload_n hx hb (show decode prog_14_method_1_code 196 = .ok (.aload_n 0, 1) by decide +kernel) rfl (lv_at hl 0 rfl) ?_
  refine lv_bipush hx hb (show decode prog_14_method_1_code 197 = .ok (.bipush (120), 2) by decide +kernel) (v := nI 120) (by decide +kernel) ?_
  refine x_newa I hS hB ht D_Model_23_len (atype := .int) (zw (by decide +kernel) rfl) 0 rfl (fun C h => by cases h) 120 (fun cA => rfl) (by decide +kernel) (by decide +kernel) (by decide) (Nat.le_of_ble_eq_true rfl) (Nat.le_of_ble_eq_true rfl) (show decode prog_14_method_1_code 199 = .ok (.newarray .int, 2) by decide +kernel) (fun H hB hS => ?_)
  have hB : x_W cx n t f (D_Model_24 n) 12 (X_Model_25 n) H := hB
  refine x_put I hS hB ht rfl 35 (by decide) (index := 88) (zw (by decide +kernel) rfl) rfl (ty := .array (.int)) (4, n + 23) rfl (by decide +kernel) rfl rfl (by rw [X_Model_25_len]; decide) (show decode prog_14_method_1_code 201 = .ok (.putfield 88, 3) by decide +kernel) (fun H locs hB hS => ?_)
  have hB : x_W cx n t f (D_Model_24 n) 12 (X_Model_26 n) H := hB
  refine lv_aload_n hx hb (show decode prog_14_method_1_code 204 = .ok (.aload_n 0, 1) by decide +kernel) rfl (lv_at hl 0 rfl) ?_
  refine lv_bipush hx hb (show decode prog_14_method_1_code 205 = .ok (.bipush (120), 2) by decide +kernel) (v := nI 120) (by decide +kernel) ?_
  refine x_newa I hS hB ht D_Model_24_len (atype := .int) (zw (by decide +kernel) rfl) 0 rfl (fun C h => by cases h) 120 (fun cA => rfl) (by decide +kernel) (by decide +kernel) (by decide) (Nat.le_of_ble_eq_true rfl) (Nat.le_of_ble_eq_true rfl) (show decode prog_14_method_1_code 207 = .ok (.newarray .int, 2) by decide +kernel) (fun H hB hS => ?_)
  have hB : x_W cx n t f (D_Model_25 n) 12 (X_Model_26 n) H := hB
  refine x_put I hS hB ht rfl 36 (by decide) (index := 91) (zw (by decide +kernel) rfl) rfl (ty := .array (.int)) (4, n + 24) rfl (by decide +kernel) rfl rfl (by rw [X_Model_26_len]; decide) (show decode prog_14_method_1_code 209 = .ok (.putfield 91, 3) by decide +kernel) (fun H locs hB hS => ?_)
  have hB : x_W cx n t f (D_Model_25 n) 12 (X_Model_27 n) H := hB
  refine lv_aload_n hx hb (show decode prog_14_method_1_code 212 = .ok (.aload_n 0, 1) by decide +kernel) rfl (lv_at hl 0 rfl) ?_
  refine lv_sipush hx hb (show decode prog_14_method_1_code 213 = .ok (.sipush (480), 3) by decide +kernel) (v := nI 480) (by decide +kernel) ?_
  refine x_newa I hS hB ht D_Model_25_len (atype := .long) (zw (by decide +kernel) rfl) 1 rfl (fun C h => by cases h) 480 (fun cA => rfl) (by decide +kernel) (by decide +kernel) (by decide) (Nat.le_of_ble_eq_true rfl) (Nat.le_of_ble_eq_true rfl) (show decode prog_14_method_1_code 216 = .ok (.newarray .long, 2) by decide +kernel) (fun H hB hS => ?_)
  have hB : x_W cx n t f (D_Model_26 n) 12 (X_Model_27 n) H := hB
  refine x_put I hS hB ht rfl 37 (by decide) (index := 94) (zw (by decide +kernel) rfl) rfl (ty := .array (.long)) (4, n + 25) rfl (by decide +kernel) rfl rfl (by rw [X_Model_27_len]; decide) (show decode prog_14_method_1_code 218 = .ok (.putfield 94, 3) by decide +kernel) (fun H locs hB hS => ?_)
  have hB : x_W cx n t f (D_Model_26 n) 12 (X_Model_28 n) H := hB
  refine lv_aload_n hx hb (show decode prog_14_method_1_code 221 = .ok (.aload_n 0, 1) by decide +kernel) rfl (lv_at hl 0 rfl) ?_
  refine lv_sipush hx hb (show decode prog_14_method_1_code 222 = .ok (.sipush (480), 3) by decide +kernel) (v := nI 480) (by decide +kernel) ?_
  refine x_newa I hS hB ht D_Model_26_len (atype := .long) (zw (by decide +kernel) rfl) 1 rfl (fun C h => by cases h) 480 (fun cA => rfl) (by decide +kernel) (by decide +kernel) (by decide) (Nat.le_of_ble_eq_true rfl) (Nat.le_of_ble_eq_true rfl) (show decode prog_14_method_1_code 225 = .ok (.newarray .long, 2) by decide +kernel) (fun H hB hS => ?_)
  have hB : x_W cx n t f (D_Model_27 n) 12 (X_Model_28 n) H := hB
  refine x_put I hS hB ht rfl 38 (by decide) (index := 97) (zw (by decide +kernel) rfl) rfl (ty := .array (.long)) (4, n + 26) rfl (by decide +kernel) rfl rfl (by rw [X_Model_28_len]; decide) (show decode prog_14_method_1_code 227 = .ok (.putfield 97, 3) by decide +kernel) (fun H locs hB hS => ?_)
  have hB : x_W cx n t f (D_Model_27 n) 12 (X_Model_29 n) H := hB
  refine lv_aload_n hx hb (show decode prog_14_method_1_code 230 = .ok (.aload_n 0, 1) by decide +kernel) rfl (lv_at hl 0 rfl) ?_
  refine lv_sipush hx hb (show decode prog_14_method_1_code 231 = .ok (.sipush (480), 3) by decide +kernel) (v := nI 480) (by decide +kernel) ?_
  refine x_newa I hS hB ht D_Model_27_len (atype := .int) (zw (by decide +kernel) rfl) 0 rfl (fun C h => by cases h) 480 (fun cA => rfl) (by decide +kernel) (by decide +kernel) (by decide) (Nat.le_of_ble_eq_true rfl) (Nat.le_of_ble_eq_true rfl) (show decode prog_14_method_1_code 234 = .ok (.newarray .int, 2) by decide +kernel) (fun H hB hS => ?_)
  have hB : x_W cx n t f (D_Model_28 n) 12 (X_Model_29 n) H := hB
  refine x_put I hS hB ht rfl 39 (by decide) (index := 100) (zw (by decide +kernel) rfl) rfl (ty := .array (.int)) (4, n + 27) rfl (by decide +kernel) rfl rfl (by rw [X_Model_29_len]; decide) (show decode prog_14_method_1_code 236 = .ok (.putfield 100, 3) by decide +kernel) (fun H locs hB hS => ?_)
  have hB : x_W cx n t f (D_Model_28 n) 12 (X_Model_30 n) H := hB
  exact b_cs rfl rfl (kk H locs hB hS)
theorem v_Model_3 (I : b_In cx prog_14_method_1_code 1 RX12 p s m args meth c) (ht : t < n) {H : Heap} {locs : List Loc} {ls : Array Slot} (hl : lv_has ls 1 [(0, .ref (b_a cx t))]) (hB : x_W cx n t f (D_Model_28 n) 12 (X_Model_30 n) H) (hS : va_S (z_A cx) s.heap H locs)
    (kk : ∀ (H : Heap) (locs : List Loc), x_W cx n t f (D_Model_38 n) 12 (X_Model_40 n) H → va_S (z_A cx) s.heap H locs → W p l e (b_rm 1 13 65 41825) s m args below meth c H locs 38 14512 Q (F0 m 325 ls [])) : W p l e (b_rm 1 13 65 41825) s m args below meth c H locs 28 11560 Q (F0 m 239 ls []) := by
  have hx := I.1
  have hb := I.2.1
  refine lv_aload_n hx hb (show decode prog_14_method_1_code 239 = .ok (.aload_n 0, 1) by decide +kernel) rfl (lv_at hl 0 rfl) ?_
  refine lv_sipush hx hb (show decode prog_14_method_1_code 240 = .ok (.sipush (480), 3) by decide +kernel) (v := nI 480) (by decide +kernel) ?_
  refine x_newa I hS hB ht D_Model_28_len (atype := .int) (zw (by decide +kernel) rfl) 0 rfl (fun C h => by cases h) 480 (fun cA => rfl) (by decide +kernel) (by decide +kernel) (by decide) (Nat.le_of_ble_eq_true rfl) (Nat.le_of_ble_eq_true rfl) (show decode prog_14_method_1_code 243 = .ok (.newarray .int, 2) by decide +kernel) (fun H hB hS => ?_)
  have hB : x_W cx n t f (D_Model_29 n) 12 (X_Model_30 n) H := hB
  refine x_put I hS hB ht rfl 40 (by decide) (index := 103) (zw (by decide +kernel) rfl) rfl (ty := .array (.int)) (4, n + 28) rfl (by decide +kernel) rfl rfl (by rw [X_Model_30_len]; decide) (show decode prog_14_method_1_code 245 = .ok (.putfield 103, 3) by decide +kernel) (fun H locs hB hS => ?_)
  have hB : x_W cx n t f (D_Model_29 n) 12 (X_Model_31 n) H := hB
  refine lv_aload_n hx hb (show decode prog_14_method_1_code 248 = .ok (.aload_n 0, 1) by decide +kernel) rfl (lv_at hl 0 rfl) ?_
  refine lv_sipush hx hb (show decode prog_14_method_1_code 249 = .ok (.sipush (480), 3) by decide +kernel) (v := nI 480) (by decide +kernel) ?_
  refine x_newa I hS hB ht D_Model_29_len (atype := .int) (zw (by decide +kernel) rfl) 0 rfl (fun C h => by cases h) 480 (fun cA => rfl) (by decide +kernel) (by decide +kernel) (by decide) (Nat.le_of_ble_eq_true rfl) (Nat.le_of_ble_eq_true rfl) (show decode prog_14_method_1_code 252 = .ok (.newarray .int, 2) by decide +kernel) (fun H hB hS => ?_)
  have hB : x_W cx n t f (D_Model_30 n) 12 (X_Model_31 n) H := hB
  refine x_put I hS hB ht rfl 41 (by decide) (index := 106) (zw (by decide +kernel) rfl) rfl (ty := .array (.int)) (4, n + 29) rfl (by decide +kernel) rfl rfl (by rw [X_Model_31_len]; decide) (show decode prog_14_method_1_code 254 = .ok (.putfield 106, 3) by decide +kernel) (fun H locs hB hS => ?_)
  have hB : x_W cx n t f (D_Model_30 n) 12 (X_Model_32 n) H := hB
  refine lv_aload_n hx hb (show decode prog_14_method_1_code 257 = .ok (.aload_n 0, 1) by decide +kernel) rfl (lv_at hl 0 rfl) ?_
  refine lv_sipush hx hb (show decode prog_14_method_1_code 258 = .ok (.sipush (480), 3) by decide +kernel) (v := nI 480) (by decide +kernel) ?_
  refine x_newa I hS hB ht D_Model_30_len (atype := .int) (zw (by decide +kernel) rfl) 0 rfl (fun C h => by cases h) 480 (fun cA => rfl) (by decide +kernel) (by decide +kernel) (by decide) (Nat.le_of_ble_eq_true rfl) (Nat.le_of_ble_eq_true rfl) (show decode prog_14_method_1_code 261 = .ok (.newarray .int, 2) by decide +kernel) (fun H hB hS => ?_)
  have hB : x_W cx n t f (D_Model_31 n) 12 (X_Model_32 n) H := hB
  refine x_put I hS hB ht rfl 42 (by decide) (index := 109) (zw (by decide +kernel) rfl) rfl (ty := .array (.int)) (4, n + 30) rfl (by decide +kernel) rfl rfl (by rw [X_Model_32_len]; decide) (show decode prog_14_method_1_code 263 = .ok (.putfield 109, 3) by decide +kernel) (fun H locs hB hS => ?_)
  have hB : x_W cx n t f (D_Model_31 n) 12 (X_Model_33 n) H := hB
  refine lv_aload_n hx hb (show decode prog_14_method_1_code 266 = .ok (.aload_n 0, 1) by decide +kernel) rfl (lv_at hl 0 rfl) ?_
  refine lv_sipush hx hb (show decode prog_14_method_1_code 267 = .ok (.sipush (480), 3) by decide +kernel) (v := nI 480) (by decide +kernel) ?_
  refine x_newa I hS hB ht D_Model_31_len (atype := .int) (zw (by decide +kernel) rfl) 0 rfl (fun C h => by cases h) 480 (fun cA => rfl) (by decide +kernel) (by decide +kernel) (by decide) (Nat.le_of_ble_eq_true rfl) (Nat.le_of_ble_eq_true rfl) (show decode prog_14_method_1_code 270 = .ok (.newarray .int, 2) by decide +kernel) (fun H hB hS => ?_)
  have hB : x_W cx n t f (D_Model_32 n) 12 (X_Model_33 n) H := hB
  refine x_put I hS hB ht rfl 43 (by decide) (index := 112) (zw (by decide +kernel) rfl) rfl (ty := .array (.int)) (4, n + 31) rfl (by decide +kernel) rfl rfl (by rw [X_Model_33_len]; decide) (show decode prog_14_method_1_code 272 = .ok (.putfield 112, 3) by decide +kernel) (fun H locs hB hS => ?_)
  have hB : x_W cx n t f (D_Model_32 n) 12 (X_Model_34 n) H := hB
  refine lv_aload_n hx hb (show decode prog_14_method_1_code 275 = .ok (.aload_n 0, 1) by decide +kernel) rfl (lv_at hl 0 rfl) ?_
  refine lv_sipush hx hb (show decode prog_14_method_1_code 276 = .ok (.sipush (480), 3) by decide +kernel) (v := nI 480) (by decide +kernel) ?_
  refine x_newa I hS hB ht D_Model_32_len (atype := .int) (zw (by decide +kernel) rfl) 0 rfl (fun C h => by cases h) 480 (fun cA => rfl) (by decide +kernel) (by decide +kernel) (by decide) (Nat.le_of_ble_eq_true rfl) (Nat.le_of_ble_eq_true rfl) (show decode prog_14_method_1_code 279 = .ok (.newarray .int, 2) by decide +kernel) (fun H hB hS => ?_)
  have hB : x_W cx n t f (D_Model_33 n) 12 (X_Model_34 n) H := hB
  refine x_put I hS hB ht rfl 44 (by decide) (index := 115) (zw (by decide +kernel) rfl) rfl (ty := .array (.int)) (4, n + 32) rfl (by decide +kernel) rfl rfl (by rw [X_Model_34_len]; decide) (show decode prog_14_method_1_code 281 = .ok (.putfield 115, 3) by decide +kernel) (fun H locs hB hS => ?_)
  have hB : x_W cx n t f (D_Model_33 n) 12 (X_Model_35 n) H := hB
  refine lv_aload_n hx hb (show decode prog_14_method_1_code 284 = .ok (.aload_n 0, 1) by decide +kernel) rfl (lv_at hl 0 rfl) ?_
  refine lv_sipush hx hb (show decode prog_14_method_1_code 285 = .ok (.sipush (360), 3) by decide +kernel) (v := nI 360) (by decide +kernel) ?_
  refine x_newa I hS hB ht D_Model_33_len (atype := .long) (zw (by decide +kernel) rfl) 1 rfl (fun C h => by cases h) 360 (fun cA => rfl) (by decide +kernel) (by decide +kernel) (by decide) (Nat.le_of_ble_eq_true rfl) (Nat.le_of_ble_eq_true rfl) (show decode prog_14_method_1_code 288 = .ok (.newarray .long, 2) by decide +kernel) (fun H hB hS => ?_)
  have hB : x_W cx n t f (D_Model_34 n) 12 (X_Model_35 n) H := hB
  refine x_put I hS hB ht rfl 45 (by decide) (index := 118) (zw (by decide +kernel) rfl) rfl (ty := .array (.long)) (4, n + 33) rfl (by decide +kernel) rfl rfl (by rw [X_Model_35_len]; decide) (show decode prog_14_method_1_code 290 = .ok (.putfield 118, 3) by decide +kernel) (fun H locs hB hS => ?_)
  have hB : x_W cx n t f (D_Model_34 n) 12 (X_Model_36 n) H := hB
  refine lv_aload_n hx hb (show decode prog_14_method_1_code 293 = .ok (.aload_n 0, 1) by decide +kernel) rfl (lv_at hl 0 rfl) ?_
  refine lv_bipush hx hb (show decode prog_14_method_1_code 294 = .ok (.bipush (48), 2) by decide +kernel) (v := nI 48) (by decide +kernel) ?_
  refine x_newa I hS hB ht D_Model_34_len (atype := .long) (zw (by decide +kernel) rfl) 1 rfl (fun C h => by cases h) 48 (fun cA => rfl) (by decide +kernel) (by decide +kernel) (by decide) (Nat.le_of_ble_eq_true rfl) (Nat.le_of_ble_eq_true rfl) (show decode prog_14_method_1_code 296 = .ok (.newarray .long, 2) by decide +kernel) (fun H hB hS => ?_)
  have hB : x_W cx n t f (D_Model_35 n) 12 (X_Model_36 n) H := hB
  refine x_put I hS hB ht rfl 46 (by decide) (index := 121) (zw (by decide +kernel) rfl) rfl (ty := .array (.long)) (4, n + 34) rfl (by decide +kernel) rfl rfl (by rw [X_Model_36_len]; decide) (show decode prog_14_method_1_code 298 = .ok (.putfield 121, 3) by decide +kernel) (fun H locs hB hS => ?_)
  have hB : x_W cx n t f (D_Model_35 n) 12 (X_Model_37 n) H := hB
  refine lv_aload_n hx hb (show decode prog_14_method_1_code 301 = .ok (.aload_n 0, 1) by decide +kernel) rfl (lv_at hl 0 rfl) ?_
  refine lv_bipush hx hb (show decode prog_14_method_1_code 302 = .ok (.bipush (48), 2) by decide +kernel) (v := nI 48) (by decide +kernel) ?_
  refine x_newa I hS hB ht D_Model_35_len (atype := .long) (zw (by decide +kernel) rfl) 1 rfl (fun C h => by cases h) 48 (fun cA => rfl) (by decide +kernel) (by decide +kernel) (by decide) (Nat.le_of_ble_eq_true rfl) (Nat.le_of_ble_eq_true rfl) (show decode prog_14_method_1_code 304 = .ok (.newarray .long, 2) by decide +kernel) (fun H hB hS => ?_)
  have hB : x_W cx n t f (D_Model_36 n) 12 (X_Model_37 n) H := hB
  refine x_put I hS hB ht rfl 47 (by decide) (index := 124) (zw (by decide +kernel) rfl) rfl (ty := .array (.long)) (4, n + 35) rfl (by decide +kernel) rfl rfl (by rw [X_Model_37_len]; decide) (show decode prog_14_method_1_code 306 = .ok (.putfield 124, 3) by decide +kernel) (fun H locs hB hS => ?_)
  have hB : x_W cx n t f (D_Model_36 n) 12 (X_Model_38 n) H := hB
  refine lv_aload_n hx hb (show decode prog_14_method_1_code 309 = .ok (.aload_n 0, 1) by decide +kernel) rfl (lv_at hl 0 rfl) ?_
  refine lv_bipush hx hb (show decode prog_14_method_1_code 310 = .ok (.bipush (48), 2) by decide +kernel) (v := nI 48) (by decide +kernel) ?_
  refine x_newa I hS hB ht D_Model_36_len (atype := .int) (zw (by decide +kernel) rfl) 0 rfl (fun C h => by cases h) 48 (fun cA => rfl) (by decide +kernel) (by decide +kernel) (by decide) (Nat.le_of_ble_eq_true rfl) (Nat.le_of_ble_eq_true rfl) (show decode prog_14_method_1_code 312 = .ok (.newarray .int, 2) by decide +kernel) (fun H hB hS => ?_)
  have hB : x_W cx n t f (D_Model_37 n) 12 (X_Model_38 n) H := hB
  refine x_put I hS hB ht rfl 48 (by decide) (index := 127) (zw (by decide +kernel) rfl) rfl (ty := .array (.int)) (4, n + 36) rfl (by decide +kernel) rfl rfl (by rw [X_Model_38_len]; decide) (show decode prog_14_method_1_code 314 = .ok (.putfield 127, 3) by decide +kernel) (fun H locs hB hS => ?_)
  have hB : x_W cx n t f (D_Model_37 n) 12 (X_Model_39 n) H := hB
  refine lv_aload_n hx hb (show decode prog_14_method_1_code 317 = .ok (.aload_n 0, 1) by decide +kernel) rfl (lv_at hl 0 rfl) ?_
  refine lv_bipush hx hb (show decode prog_14_method_1_code 318 = .ok (.bipush (48), 2) by decide +kernel) (v := nI 48) (by decide +kernel) ?_
  refine x_newa I hS hB ht D_Model_37_len (atype := .int) (zw (by decide +kernel) rfl) 0 rfl (fun C h => by cases h) 48 (fun cA => rfl) (by decide +kernel) (by decide +kernel) (by decide) (Nat.le_of_ble_eq_true rfl) (Nat.le_of_ble_eq_true rfl) (show decode prog_14_method_1_code 320 = .ok (.newarray .int, 2) by decide +kernel) (fun H hB hS => ?_)
  have hB : x_W cx n t f (D_Model_38 n) 12 (X_Model_39 n) H := hB
  refine x_put I hS hB ht rfl 49 (by decide) (index := 130) (zw (by decide +kernel) rfl) rfl (ty := .array (.int)) (4, n + 37) rfl (by decide +kernel) rfl rfl (by rw [X_Model_39_len]; decide) (show decode prog_14_method_1_code 322 = .ok (.putfield 130, 3) by decide +kernel) (fun H locs hB hS => ?_)
  have hB : x_W cx n t f (D_Model_38 n) 12 (X_Model_40 n) H := hB
  exact b_cs rfl rfl (kk H locs hB hS)
end
