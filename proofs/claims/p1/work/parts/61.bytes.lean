/-! ===== constructors: Bytes ===== -/
def y_Bytes : MethodName := ⟨RX0, "<init>", "(I)V"⟩
def T_Bytes (cx : zX) (M : Nat) : List va_E := [.inl (cx.2.2.1 2, (M, .inl (fun _ => 0)))]
def F_Bytes (cx : zX) (n : Nat) : List Value := (b_df 0).set 0 (.ref (b_a cx (n + 0)))
theorem c_Bytes {cx : zX} {n t M : Nat} {f : Nat → va_E} (hM : M < 65536) (hf : f t = .inr (0, b_df 0)) (ht : t < n) : bOk y_Bytes prog_2_method_1_code 2 1 14 1 M cx [.ref (b_a cx t), .int (nI M)] n f (n + 1, b_up (b_cat n f (T_Bytes cx M)) t (.inr (0, F_Bytes cx n))) := by
  refine b_enter rfl (by decide) (Nat.le_of_ble_eq_true rfl) (fun p l e s m below meth c ls I hB hl hS => ?_)
  have hl : lv_has ls 2 [(0, .ref (b_a cx t)), (1, .int (nI M))] := hl
  have hx := I.1
  have hb := I.2.1
  have hts := I.2.2.2.2.2.1
  have hB := hB.cat0 hf
  have hfl : (b_df 0).length = 2 := by decide +kernel
  refine lv_aload_n hx hb (show decode prog_2_method_1_code 0 = .ok (.aload_n 0, 1) by decide +kernel) rfl (lv_at hl 0 rfl) ?_
  refine b_obj I (idx := 3) (zw (by decide +kernel) rfl) hl.1 (show decode prog_2_method_1_code 1 = .ok (.invokespecial 3, 3) by decide +kernel) (by show 1 ≤ 1; decide) (by show 12 ≤ 14; decide) ?_
  refine lv_aload_n hx hb (show decode prog_2_method_1_code 4 = .ok (.aload_n 0, 1) by decide +kernel) rfl (lv_at hl 0 rfl) ?_
  refine lv_iload_n hx hb (show decode prog_2_method_1_code 5 = .ok (.iload_n 1, 1) by decide +kernel) rfl (lv_at hl 1 rfl) ?_
  refine lv_iconst hx hb (show decode prog_2_method_1_code 6 = .ok (.iconst 0, 1) by decide +kernel) rfl ?_
  refine va_mmax hx hb (I.2.2.2.1.trans hl.1.symm) I.2.2.2.2.1 (hts _ (zw (by decide +kernel) rfl)) (hts _ (zw (by decide +kernel) rfl)) (hts _ (zw (by decide +kernel) rfl)) (hts _ (zw (by decide +kernel) rfl)) (by show 1 ≤ 1; decide) (by show 1 + 13 ≤ 14; decide) (by show 0 ≤ 1; decide) (Nat.zero_le _) (show decode prog_2_method_1_code 7 = .ok (.invokestatic 9, 3) by decide +kernel) ?_
  have e0 : (if nI M < Int32.ofInt 0 then Int32.ofInt 0 else nI M) = nI M := if_neg (nI_pos (by omega))
  rw [e0]
  refine n_newa I hS hB ht rfl (atype := .byte) (zw (by decide +kernel) rfl) (tt := 2) rfl (fun C h => by cases h) (N' := M) (a0 := (M, .inl (fun _ => 0))) (fun cA => rfl) (nI_pos (by omega)) (nI_clamp (by omega)) (by show M * 1 ≤ 536870912; omega) (by show 0 + 1 ≤ 1; decide) (by show 0 + M ≤ M; omega) (show decode prog_2_method_1_code 10 = .ok (.newarray .byte, 2) by decide +kernel) (fun H hB hS => ?_)
  refine n_put I hS hB (by omega) (ci := 0) rfl 0 (by decide) (index := 15) (zw (by decide +kernel) rfl) rfl (ty := .array .byte) (by decide +kernel) rfl rfl (by rw [hfl]; decide) (show decode prog_2_method_1_code 12 = .ok (.putfield 15, 3) by decide +kernel) rfl (fun H locs hB hS => ?_)
  exact b_ret I (u := (_, _)) hB hS (by decide) (by omega) (show decode prog_2_method_1_code 15 = .ok (.return_, 1) by decide +kernel)
