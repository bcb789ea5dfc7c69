/-! ===== constructors: Operator ===== -/
/-- a new object's fields -/
def b_df (c : Nat) : List Value := (List.range (z_nf c)).map (fun k => match z_tc (c + 10) k with | 0 => .int 0 | 5 => .int 0 | 1 => .long 0 | _ => .null)
def b_rf (cx : zX) (s d k : Nat) : Nat → Option Nat := fun j => if j < k then some (b_a cx (s + d * j)) else none
theorem b_rf_up {cx : zX} {s d k a : Nat} (h : a = s + d * k) : va_up (b_rf cx s d k) k (some (b_a cx a)) = b_rf cx s d (k + 1) := by
  funext j
  subst h
  unfold va_up b_rf
  by_cases e : j = k
  · rw [if_pos e, e, if_pos (by omega)]
  · rw [if_neg e]
    by_cases h : j < k
    · rw [if_pos h, if_pos (by omega)]
    · rw [if_neg h, if_neg (by omega)]
theorem b_rf_0 {cx : zX} {s d : Nat} : b_rf cx s d 0 = fun _ => none := by
  funext j
  exact if_neg (by omega)
/-- a row of cells -/
abbrev b_qa (cx : zX) (tt N : Nat) (g : Nat → Option Nat) : va_E := .inl (cx.2.2.1 tt, N, .inr (.inr (.inr (.inr g))))
def y_Op : MethodName := ⟨RX7, "<init>", "()V"⟩
def opT (cx : zX) (n j : Nat) : List va_E := b_qa cx 7 4 (b_rf cx (n + 1) 1 j) :: List.replicate j (.inr (3, b_df 3))
theorem opT_len {cx : zX} {n j : Nat} : (opT cx n j).length = 1 + j := by simp [opT]; omega
def opF1 (cx : zX) (n : Nat) : va_E := .inr (7, (b_df 7).set 8 (.ref (b_a cx (n + 0))))
def opF2 (cx : zX) (n : Nat) : va_E := .inr (7, ((b_df 7).set 8 (.ref (b_a cx (n + 0)))).set 10 (.ref (b_a cx (n + 5))))
def opL (cx : zX) : va_E := .inl (cx.2.2.1 1, 3, .inr (.inl (fun _ => 0)))
theorem b_df_len : (b_df 7).length = 16 ∧ (b_df 3).length = 6 := by decide +kernel
theorem op_next {cx : zX} {n j : Nat} {g : Nat → Option Nat} (hg : g = b_rf cx (n + 1) 1 (j + 1)) : (opT cx n j ++ [(Sum.inr (3, b_df 3) : va_E)]).set 0 (b_qa cx 7 4 g) = opT cx n (j + 1) := by
  subst hg
  simp [opT, List.replicate_succ']
theorem d3fs : ∀ j, j < 6 → defaultValue (tyX3 j) = vp_V (b_df 3) j := by decide +kernel
section COP
variable {p : Program} {l : Launch} {e : Env} {s : State} {m : MethodId} {below : List Frame} {meth : Method} {c : Code} {cx : zX} {n t : Nat} {f : Nat → va_E}
theorem c_op_loop (I : b_In cx prog_9_method_1_code 2 RX7 p s m #[.ref (b_a cx t)] meth c) (ht : t < n) : ∀ (i j : Nat), j + i = 4 → ∀ (H : Heap) (locs : List Loc) (ls : Array Slot), b_W cx (n + (1 + j)) (b_up (b_cat n f (opT cx n j)) t (opF1 cx n)) H → va_S (z_A cx) s.heap H locs → lv_has ls 2 [(0, .ref (b_a cx t)), (1, .int (nI j))] →
    W p l e (b_rm 2 32 6 31) s m #[.ref (b_a cx t)] below meth c H locs (1 + j) (4 + 6 * j) (MQ below (va_Qv (fun v => v = (n + (1 + 4 + 1), b_up (b_cat n f (opT cx n 4 ++ [opL cx])) t (opF2 cx n))) (b_B cx) (z_A cx)) #[.ref (b_a cx t)] s 6 31 (z_A cx)) (F0 m 14 ls []) := by
  have hx := I.1
  have hb := I.2.1
  intro i
  induction i with
  | zero =>
    intro j hj H locs ls hB hS hl
    have e4 : j = 4 := by omega
    subst e4
    refine lv_iload_n hx hb (show decode prog_9_method_1_code 14 = .ok (.iload_n 1, 1) by decide +kernel) rfl (lv_at hl 1 rfl) ?_
    refine lv_iconst hx hb (show decode prog_9_method_1_code 15 = .ok (.iconst 4, 1) by decide +kernel) rfl ?_
    refine lv_icmp_ge hx hb (show decode prog_9_method_1_code 16 = .ok (.if_icmp .ge 22, 3) by decide +kernel) (tgt := 38) rfl (fun _ => ?_) (fun h => absurd (by decide) h)
    refine lv_aload_n hx hb (show decode prog_9_method_1_code 38 = .ok (.aload_n 0, 1) by decide +kernel) rfl (lv_at hl 0 rfl) ?_
    refine lv_iconst hx hb (show decode prog_9_method_1_code 39 = .ok (.iconst 3, 1) by decide +kernel) rfl ?_
    refine n_newa I hS hB ht opT_len (atype := .long) (zw (by decide +kernel) rfl) (tt := 1) rfl (fun C h => by cases h) (N' := 3) (a0 := (3, .inr (.inl (fun _ => 0)))) (fun cA => rfl) (by decide) rfl (by decide) (by decide) (by decide) (show decode prog_9_method_1_code 40 = .ok (.newarray .long, 2) by decide +kernel) (fun H hB hS => ?_)
    refine n_put I hS hB (by omega) (ci := 7) rfl 10 (by decide) (index := 18) (zw (by decide +kernel) rfl) rfl (ty := .array .long) (by decide +kernel) rfl rfl (by rw [List.length_set, b_df_len.1]; decide) (show decode prog_9_method_1_code 42 = .ok (.putfield 18, 3) by decide +kernel) rfl (fun H locs hB hS => ?_)
    exact b_ret I (u := (n + (1 + 4 + 1), b_up (b_cat n f (opT cx n 4 ++ [opL cx])) t (opF2 cx n))) hB hS (by decide) (by decide) (show decode prog_9_method_1_code 45 = .ok (.return_, 1) by decide +kernel)
  | succ i ih =>
    intro j hj H locs ls hB hS hl
    refine lv_iload_n hx hb (show decode prog_9_method_1_code 14 = .ok (.iload_n 1, 1) by decide +kernel) rfl (lv_at hl 1 rfl) ?_
    refine lv_iconst hx hb (show decode prog_9_method_1_code 15 = .ok (.iconst 4, 1) by decide +kernel) rfl ?_
    refine lv_icmp_ge hx hb (show decode prog_9_method_1_code 16 = .ok (.if_icmp .ge 22, 3) by decide +kernel) (tgt := 38) rfl (fun h => absurd h (nI_ge (b := 4) (by omega) (by decide))) (fun _ => ?_)
    refine lv_aload_n hx hb (show decode prog_9_method_1_code 19 = .ok (.aload_n 0, 1) by decide +kernel) rfl (lv_at hl 0 rfl) ?_
    refine n_get I hB (by omega) (ci := 7) rfl 8 (by decide) (index := 11) (zw (by decide +kernel) rfl) (v := .ref (b_a cx (n + 0))) (List.getElem?_set_self (by rw [b_df_len.1]; decide)) (show decode prog_9_method_1_code 20 = .ok (.getfield 11, 3) by decide +kernel) ?_
    refine lv_iload_n hx hb (show decode prog_9_method_1_code 23 = .ok (.iload_n 1, 1) by decide +kernel) rfl (lv_at hl 1 rfl) ?_
    refine n_new I hS hB ht opT_len (ci := 3) rfl (index := 9) (fs := b_df 3) (ty := tyX3) (zw (by decide +kernel) rfl) (zw (by decide +kernel) rfl) (zw (by decide +kernel) rfl) tyX3_ok d3fs (by show 1 + j + 1 ≤ 6; omega) (by show 4 + 6 * j + 6 ≤ 31; omega) (show decode prog_9_method_1_code 24 = .ok (.new 9, 3) by decide +kernel) (fun H hB hS => ?_)
    refine lv_dup hx hb (show decode prog_9_method_1_code 27 = .ok (.dup, 1) by decide +kernel) rfl ?_
    refine b_callN (As := []) (rest := [.ref (b_a cx (n + (1 + j))), .int (nI j), .ref (b_a cx (n + 0))]) I (c_Input (t := b_a cx (n + (1 + j)))) hB hS (I.2.2.2.2.2.2.2.2.2.2.2 (RX7, 17, y_Input) List.mem_cons_self) (zw (by decide +kernel) rfl) (zw (by decide +kernel) rfl) (zw (by decide +kernel) rfl) rfl ⟨by decide, by decide, by decide +kernel⟩ ⟨by decide, by decide⟩ hl.1 (Nat.le_of_ble_eq_true rfl) (show decode prog_9_method_1_code 28 = .ok (.invokespecial 17, 3) by decide +kernel) ⟨by show 1 + j + 1 + 0 ≤ 6; omega, by show 4 + 6 * j + 6 + 0 ≤ 31; omega⟩ (fun H locs hB hS => ?_)
    refine n_aast I hS hB ht (by rw [List.length_append, opT_len]; rfl) (i0 := 0) (iv := 1 + j) (tt := 7) (ci := 3) (r := (RX3, TX3, 6)) (g := b_rf cx (n + 1) 1 j) (vs := b_df 3) rfl rfl (by rw [List.getElem?_append_right (by rw [opT_len]; omega), opT_len]; simp) rfl (N' := 4) (vp_in_nI (by omega) (by decide)) (show decode prog_9_method_1_code 31 = .ok (.aastore, 1) by decide +kernel) (fun H locs hB hS => ?_)
    rw [nI_clamp (by omega), op_next (b_rf_up (show n + (1 + j) = n + 1 + 1 * j by omega))] at hB
    refine lv_iinc hx hb (show decode prog_9_method_1_code 32 = .ok (.iinc 1 1, 3) by decide +kernel) hl (k := 1) rfl (v := nI (j + 1)) (nI_succ j).symm (by decide) (lv' := [(1, .int (nI (j + 1))), (0, .ref (b_a cx t))]) rfl (fun ls hl => ?_)
    refine lv_goto hx hb (show decode prog_9_method_1_code 35 = .ok (.goto (-21), 3) by decide +kernel) (tgt := 14) rfl ?_
    exact ih (j + 1) (by omega) H locs ls hB hS (lv_sub hl [1, 0] rfl)
theorem c_Op (hf : f t = .inr (7, b_df 7)) (ht : t < n) : bOk y_Op prog_9_method_1_code 2 2 32 6 31 cx [.ref (b_a cx t)] n f (n + (1 + 4 + 1), b_up (b_cat n f (opT cx n 4 ++ [opL cx])) t (opF2 cx n)) := by
  refine b_enter rfl (by decide) (Nat.le_of_ble_eq_true rfl) (fun p l e s m below meth c ls I hB hl hS => ?_)
  have hl : lv_has ls 2 [(0, .ref (b_a cx t))] := hl
  have hx := I.1
  have hb := I.2.1
  have hB := hB.cat0 hf
  refine lv_aload_n hx hb (show decode prog_9_method_1_code 0 = .ok (.aload_n 0, 1) by decide +kernel) rfl (lv_at hl 0 rfl) ?_
  refine b_obj I (idx := 3) (zw (by decide +kernel) rfl) hl.1 (show decode prog_9_method_1_code 1 = .ok (.invokespecial 3, 3) by decide +kernel) (by decide) (by decide) ?_
  refine lv_aload_n hx hb (show decode prog_9_method_1_code 4 = .ok (.aload_n 0, 1) by decide +kernel) rfl (lv_at hl 0 rfl) ?_
  refine lv_iconst hx hb (show decode prog_9_method_1_code 5 = .ok (.iconst 4, 1) by decide +kernel) rfl ?_
  refine n_newq I hS hB ht rfl (C := RX3) (index := 9) (zw (by decide +kernel) rfl) (by decide) (tt := 7) rfl (N' := 4) (by decide) rfl (by decide) (by decide) (by decide) (show decode prog_9_method_1_code 6 = .ok (.anewarray 9, 3) by decide +kernel) (fun H hB hS => ?_)
  refine n_put I hS hB (by omega) (ci := 7) rfl 8 (by decide) (index := 11) (zw (by decide +kernel) rfl) rfl (ty := .array (.object RX3)) (by decide +kernel) rfl rfl (by rw [b_df_len.1]; decide) (show decode prog_9_method_1_code 9 = .ok (.putfield 11, 3) by decide +kernel) rfl (fun H locs hB hS => ?_)
  refine lv_iconst hx hb (show decode prog_9_method_1_code 12 = .ok (.iconst 0, 1) by decide +kernel) rfl ?_
  refine lv_istore_n hx hb (show decode prog_9_method_1_code 13 = .ok (.istore_n 1, 1) by decide +kernel) rfl hl (by decide) (lv' := [(1, .int 0), (0, .ref (b_a cx t))]) rfl (fun ls hl => ?_)
  refine c_op_loop I ht 4 0 rfl H locs ls ?_ hS (lv_sub hl [1, 0] rfl)
  unfold opT
  rw [b_rf_0]
  exact hB
end COP
