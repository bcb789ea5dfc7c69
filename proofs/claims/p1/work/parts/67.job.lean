/-! ===== constructors: Job (printed by wip/p1/gen/p64.py) ===== -/
def y_Job : MethodName := ⟨RX4, "<init>", "()V"⟩
def D_Job_0 (n : Nat) : List dE := []
theorem D_Job_0_len {n : Nat} : (D_Job_0 n).length = 0 := rfl
def X_Job_0 (n : Nat) : List dV := d_df 4
theorem X_Job_0_len {n : Nat} : (X_Job_0 n).length = 14 := by
  show (d_df 4).length = 14
  decide +kernel
def D_Job_1 (n : Nat) : List dE := D_Job_0 n ++ [dQ 6 40 (n + (0 + 1)) 7 0]
theorem D_Job_1_len {n : Nat} : (D_Job_1 n).length = 1 := by rw [D_Job_1, List.length_append, D_Job_0_len]; rfl
def X_Job_1 (n : Nat) : List dV := (X_Job_0 n).set 1 (4, n + 0)
theorem X_Job_1_len {n : Nat} : (X_Job_1 n).length = 14 := by rw [X_Job_1, List.length_set, X_Job_0_len]
def cel_Job_15 (n : Nat) (j : Nat) : List dE := dO 7 (F_Op (n + (0 + 1 + 7 * j + 1))) :: T_Op (n + (0 + 1 + 7 * j + 1))
theorem cel_Job_15_len {n : Nat} : ∀ i : Nat, (cel_Job_15 n i).length = 7 := fun i => by rw [cel_Job_15, List.length_cons, T_Op_len]
section
variable {p : Program} {l : Launch} {e : Env} {R : Room} {s : State} {m : MethodId} {args : Array Value} {below : List Frame} {meth : Method} {c : Code} {cells slots : Nat} {Q : State → Prop} {cx : zX} {n t : Nat} {f : Nat → va_E}
theorem l_Job_15 (I : b_In cx prog_6_method_1_code 2 RX4 p s m args meth c) (ht : t < n) (hR : 3 ≤ R.frames ∧ 53 ≤ R.locals) (hc : cells + 7 * 40 ≤ R.cells ∧ slots + 47 * 40 ≤ R.slots)
    (kk : ∀ (H : Heap) (locs : List Loc) (ls : Array Slot), x_W cx n t f (q_ds (D_Job_0 n) 6 40 (n + (0 + 1)) 7 (cel_Job_15 n) 40) 4 (X_Job_1 n) H → va_S (z_A cx) s.heap H locs → lv_has ls 2 [(0, .ref (b_a cx t)), (1, .int (nI 40))] → W p l e R s m args below meth c H locs (cells + 7 * 40) (slots + 47 * 40) Q (F0 m 40 ls [])) :
    ∀ (i j : Nat), j + i = 40 → ∀ (H : Heap) (locs : List Loc) (ls : Array Slot), x_W cx n t f (q_ds (D_Job_0 n) 6 40 (n + (0 + 1)) 7 (cel_Job_15 n) j) 4 (X_Job_1 n) H → va_S (z_A cx) s.heap H locs → lv_has ls 2 [(0, .ref (b_a cx t)), (1, .int (nI j))] → W p l e R s m args below meth c H locs (cells + 7 * j) (slots + 47 * j) Q (F0 m 15 ls []) := by
  have hx := I.1
  have hb := I.2.1
  intro i
  induction i with
  | zero =>
    intro j hj H locs ls hB hS hl
    have ej : j = 40 := by omega
    subst ej
    refine lv_iload_n hx hb (show decode prog_6_method_1_code 15 = .ok (.iload_n 1, 1) by decide +kernel) rfl (lv_at hl 1 rfl) ?_
    refine lv_bipush hx hb (show decode prog_6_method_1_code 16 = .ok (.bipush (40), 2) by decide +kernel) (v := nI 40) (by decide +kernel) ?_
    refine lv_icmp_ge hx hb (show decode prog_6_method_1_code 18 = .ok (.if_icmp .ge 22, 3) by decide +kernel) (tgt := 40) rfl (fun _ => ?_) (fun h => absurd (nI_le (Nat.le_refl _) (by decide)) h)
    exact kk H locs ls hB hS hl
  | succ i ih =>
    intro j hj H locs ls hB hS hl
    refine lv_iload_n hx hb (show decode prog_6_method_1_code 15 = .ok (.iload_n 1, 1) by decide +kernel) rfl (lv_at hl 1 rfl) ?_
    refine lv_bipush hx hb (show decode prog_6_method_1_code 16 = .ok (.bipush (40), 2) by decide +kernel) (v := nI 40) (by decide +kernel) ?_
    refine lv_icmp_ge hx hb (show decode prog_6_method_1_code 18 = .ok (.if_icmp .ge 22, 3) by decide +kernel) (tgt := 40) rfl (fun h => absurd h (nI_ge (b := 40) (by omega) (by decide))) (fun _ => ?_)
    refine lv_aload_n hx hb (show decode prog_6_method_1_code 21 = .ok (.aload_n 0, 1) by decide +kernel) rfl (lv_at hl 0 rfl) ?_
    refine x_get I hB ht rfl 1 (by decide) (index := 11) (zw (by decide +kernel) rfl) (w := (4, n + 0)) (List.getElem?_set_self (by rw [X_Job_0_len]; decide)) rfl (show decode prog_6_method_1_code 22 = .ok (.getfield 11, 3) by decide +kernel) ?_
    refine lv_iload_n hx hb (show decode prog_6_method_1_code 25 = .ok (.iload_n 1, 1) by decide +kernel) rfl (lv_at hl 1 rfl) ?_
    refine x_new I hS hB ht (q_ds_len D_Job_0_len cel_Job_15_len) 7 rfl (index := 9) (ty := tyX7) (zw (by decide +kernel) rfl) (zw (by decide +kernel) rfl) (zw (by decide +kernel) rfl) tyX7_ok d7fs (by omega) (by show _ + 16 ≤ _; omega) (show decode prog_6_method_1_code 26 = .ok (.new 9, 3) by decide +kernel) (fun H hB hS => ?_)
    refine lv_dup hx hb (show decode prog_6_method_1_code 29 = .ok (.dup, 1) by decide +kernel) rfl ?_
    refine x_call (As := []) (rest := [.ref (b_a cx (n + (0 + 1 + 7 * j))), .int (nI j), .ref (b_a cx (n + 0))]) I (d_Op) hS hB ht (q_ds_len D_Job_0_len cel_Job_15_len) (zw (by decide +kernel) rfl) (zw (by decide +kernel) rfl) (zw (by decide +kernel) rfl) (zw (by decide +kernel) rfl) rfl ⟨by decide, by decide, by decide +kernel⟩ ⟨hR.1, hR.2⟩ hl.1 (Nat.le_of_ble_eq_true rfl) (show decode prog_6_method_1_code 30 = .ok (.invokespecial 17, 3) by decide +kernel) ⟨by omega, by show _ + 16 + 31 ≤ _; omega⟩ (fun H locs hB hS => ?_)
    refine x_aast I hS hB ht (i0 := 0) (iv := 0 + 1 + 7 * j) (q_ds_at D_Job_0_len) rfl (q_ds_new D_Job_0_len cel_Job_15_len) rfl (by omega) (by decide) (by omega) (show decode prog_6_method_1_code 33 = .ok (.aastore, 1) by decide +kernel) (fun H locs hB hS => ?_)
    rw [q_ds_next (cel := cel_Job_15 n) D_Job_0_len rfl] at hB
    refine lv_iinc hx hb (show decode prog_6_method_1_code 34 = .ok (.iinc 1 1, 3) by decide +kernel) hl (k := 1) rfl (v := nI (j + 1)) (nI_succ j).symm (by decide) (lv' := [(1, .int (nI (j + 1))), (0, .ref (b_a cx t))]) rfl (fun ls hl => ?_)
    refine lv_goto hx hb (show decode prog_6_method_1_code 37 = .ok (.goto (-22), 3) by decide +kernel) (tgt := 15) rfl ?_
    exact b_cs (show cells + 7 * j + 1 + 6 = cells + 7 * (j + 1) by omega) (show slots + 47 * j + 16 + 31 = slots + 47 * (j + 1) by omega) (ih (j + 1) (by omega) H locs ls hB hS (lv_sub hl [1, 0] rfl))
end
def D_Job_2 (n : Nat) : List dE := q_ds (D_Job_0 n) 6 40 (n + (0 + 1)) 7 (cel_Job_15 n) 40
theorem D_Job_2_len {n : Nat} : (D_Job_2 n).length = 281 := q_ds_len D_Job_0_len cel_Job_15_len
def D_Job_3 (n : Nat) : List dE := D_Job_2 n ++ [dQ 8 16 (n + (281 + 1)) 1 0]
theorem D_Job_3_len {n : Nat} : (D_Job_3 n).length = 282 := by rw [D_Job_3, List.length_append, D_Job_2_len]; rfl
def X_Job_2 (n : Nat) : List dV := (X_Job_1 n).set 3 (4, n + 281)
theorem X_Job_2_len {n : Nat} : (X_Job_2 n).length = 14 := by rw [X_Job_2, List.length_set, X_Job_1_len]
def cel_Job_51 (n : Nat) (j : Nat) : List dE := dO 8 (F_Pa (n + (281 + 1 + 1 * j + 1))) :: T_Nil (n + (281 + 1 + 1 * j + 1))
theorem cel_Job_51_len {n : Nat} : ∀ i : Nat, (cel_Job_51 n i).length = 1 := fun i => by rw [cel_Job_51, List.length_cons, T_Nil_len]
section
variable {p : Program} {l : Launch} {e : Env} {R : Room} {s : State} {m : MethodId} {args : Array Value} {below : List Frame} {meth : Method} {c : Code} {cells slots : Nat} {Q : State → Prop} {cx : zX} {n t : Nat} {f : Nat → va_E}
theorem l_Job_51 (I : b_In cx prog_6_method_1_code 2 RX4 p s m args meth c) (ht : t < n) (hR : 2 ≤ R.frames ∧ 33 ≤ R.locals) (hc : cells + 1 * 16 ≤ R.cells ∧ slots + 8 * 16 ≤ R.slots)
    (kk : ∀ (H : Heap) (locs : List Loc) (ls : Array Slot), x_W cx n t f (q_ds (D_Job_2 n) 8 16 (n + (281 + 1)) 1 (cel_Job_51 n) 16) 4 (X_Job_2 n) H → va_S (z_A cx) s.heap H locs → lv_has ls 2 [(0, .ref (b_a cx t)), (1, .int (nI 16))] → W p l e R s m args below meth c H locs (cells + 1 * 16) (slots + 8 * 16) Q (F0 m 76 ls [])) :
    ∀ (i j : Nat), j + i = 16 → ∀ (H : Heap) (locs : List Loc) (ls : Array Slot), x_W cx n t f (q_ds (D_Job_2 n) 8 16 (n + (281 + 1)) 1 (cel_Job_51 n) j) 4 (X_Job_2 n) H → va_S (z_A cx) s.heap H locs → lv_has ls 2 [(0, .ref (b_a cx t)), (1, .int (nI j))] → W p l e R s m args below meth c H locs (cells + 1 * j) (slots + 8 * j) Q (F0 m 51 ls []) := by
  have hx := I.1
  have hb := I.2.1
  intro i
  induction i with
  | zero =>
    intro j hj H locs ls hB hS hl
    have ej : j = 16 := by omega
    subst ej
    refine lv_iload_n hx hb (show decode prog_6_method_1_code 51 = .ok (.iload_n 1, 1) by decide +kernel) rfl (lv_at hl 1 rfl) ?_
    refine lv_bipush hx hb (show decode prog_6_method_1_code 52 = .ok (.bipush (16), 2) by decide +kernel) (v := nI 16) (by decide +kernel) ?_
    refine lv_icmp_ge hx hb (show decode prog_6_method_1_code 54 = .ok (.if_icmp .ge 22, 3) by decide +kernel) (tgt := 76) rfl (fun _ => ?_) (fun h => absurd (nI_le (Nat.le_refl _) (by decide)) h)
    exact kk H locs ls hB hS hl
  | succ i ih =>
    intro j hj H locs ls hB hS hl
    refine lv_iload_n hx hb (show decode prog_6_method_1_code 51 = .ok (.iload_n 1, 1) by decide +kernel) rfl (lv_at hl 1 rfl) ?_
    refine lv_bipush hx hb (show decode prog_6_method_1_code 52 = .ok (.bipush (16), 2) by decide +kernel) (v := nI 16) (by decide +kernel) ?_
    refine lv_icmp_ge hx hb (show decode prog_6_method_1_code 54 = .ok (.if_icmp .ge 22, 3) by decide +kernel) (tgt := 76) rfl (fun h => absurd h (nI_ge (b := 16) (by omega) (by decide))) (fun _ => ?_)
    refine lv_aload_n hx hb (show decode prog_6_method_1_code 57 = .ok (.aload_n 0, 1) by decide +kernel) rfl (lv_at hl 0 rfl) ?_
    refine x_get I hB ht rfl 3 (by decide) (index := 20) (zw (by decide +kernel) rfl) (w := (4, n + 281)) (List.getElem?_set_self (by rw [X_Job_1_len]; decide)) rfl (show decode prog_6_method_1_code 58 = .ok (.getfield 20, 3) by decide +kernel) ?_
    refine lv_iload_n hx hb (show decode prog_6_method_1_code 61 = .ok (.iload_n 1, 1) by decide +kernel) rfl (lv_at hl 1 rfl) ?_
    refine x_new I hS hB ht (q_ds_len D_Job_2_len cel_Job_51_len) 8 rfl (index := 18) (ty := tyX8) (zw (by decide +kernel) rfl) (zw (by decide +kernel) rfl) (zw (by decide +kernel) rfl) tyX8_ok d8fs (by omega) (by show _ + 8 ≤ _; omega) (show decode prog_6_method_1_code 62 = .ok (.new 18, 3) by decide +kernel) (fun H hB hS => ?_)
    refine lv_dup hx hb (show decode prog_6_method_1_code 65 = .ok (.dup, 1) by decide +kernel) rfl ?_
    refine x_callN (As := []) (rest := [.ref (b_a cx (n + (281 + 1 + 1 * j))), .int (nI j), .ref (b_a cx (n + 281))]) I (d_Pair) hS hB ht (q_ds_len D_Job_2_len cel_Job_51_len) (I.2.2.2.2.2.2.2.2.2.2.2 _ (by decide +kernel : (RX4, 24, y_Pair) ∈ k_nest)) (zw (by decide +kernel) rfl) (zw (by decide +kernel) rfl) (zw (by decide +kernel) rfl) rfl ⟨by decide, by decide, by decide +kernel⟩ ⟨hR.1, hR.2⟩ hl.1 (Nat.le_of_ble_eq_true rfl) (show decode prog_6_method_1_code 66 = .ok (.invokespecial 24, 3) by decide +kernel) ⟨by omega, by show _ + 8 + 0 ≤ _; omega⟩ (fun H locs hB hS => ?_)
    refine x_aast I hS hB ht (i0 := 281) (iv := 281 + 1 + 1 * j) (q_ds_at D_Job_2_len) rfl (q_ds_new D_Job_2_len cel_Job_51_len) rfl (by omega) (by decide) (by omega) (show decode prog_6_method_1_code 69 = .ok (.aastore, 1) by decide +kernel) (fun H locs hB hS => ?_)
    rw [q_ds_next (cel := cel_Job_51 n) D_Job_2_len rfl] at hB
    refine lv_iinc hx hb (show decode prog_6_method_1_code 70 = .ok (.iinc 1 1, 3) by decide +kernel) hl (k := 1) rfl (v := nI (j + 1)) (nI_succ j).symm (by decide) (lv' := [(1, .int (nI (j + 1))), (0, .ref (b_a cx t))]) rfl (fun ls hl => ?_)
    refine lv_goto hx hb (show decode prog_6_method_1_code 73 = .ok (.goto (-22), 3) by decide +kernel) (tgt := 51) rfl ?_
    exact b_cs (show cells + 1 * j + 1 + 0 = cells + 1 * (j + 1) by omega) (show slots + 8 * j + 8 + 0 = slots + 8 * (j + 1) by omega) (ih (j + 1) (by omega) H locs ls hB hS (lv_sub hl [1, 0] rfl))
end
def D_Job_4 (n : Nat) : List dE := q_ds (D_Job_2 n) 8 16 (n + (281 + 1)) 1 (cel_Job_51 n) 16
theorem D_Job_4_len {n : Nat} : (D_Job_4 n).length = 298 := q_ds_len D_Job_2_len cel_Job_51_len
def D_Job_5 (n : Nat) : List dE := D_Job_4 n ++ [dQ 8 8 (n + (298 + 1)) 1 0]
theorem D_Job_5_len {n : Nat} : (D_Job_5 n).length = 299 := by rw [D_Job_5, List.length_append, D_Job_4_len]; rfl
def X_Job_3 (n : Nat) : List dV := (X_Job_2 n).set 5 (4, n + 298)
theorem X_Job_3_len {n : Nat} : (X_Job_3 n).length = 14 := by rw [X_Job_3, List.length_set, X_Job_2_len]
def cel_Job_87 (n : Nat) (j : Nat) : List dE := dO 8 (F_Pa (n + (298 + 1 + 1 * j + 1))) :: T_Nil (n + (298 + 1 + 1 * j + 1))
theorem cel_Job_87_len {n : Nat} : ∀ i : Nat, (cel_Job_87 n i).length = 1 := fun i => by rw [cel_Job_87, List.length_cons, T_Nil_len]
section
variable {p : Program} {l : Launch} {e : Env} {R : Room} {s : State} {m : MethodId} {args : Array Value} {below : List Frame} {meth : Method} {c : Code} {cells slots : Nat} {Q : State → Prop} {cx : zX} {n t : Nat} {f : Nat → va_E}
theorem l_Job_87 (I : b_In cx prog_6_method_1_code 2 RX4 p s m args meth c) (ht : t < n) (hR : 2 ≤ R.frames ∧ 33 ≤ R.locals) (hc : cells + 1 * 8 ≤ R.cells ∧ slots + 8 * 8 ≤ R.slots)
    (kk : ∀ (H : Heap) (locs : List Loc) (ls : Array Slot), x_W cx n t f (q_ds (D_Job_4 n) 8 8 (n + (298 + 1)) 1 (cel_Job_87 n) 8) 4 (X_Job_3 n) H → va_S (z_A cx) s.heap H locs → lv_has ls 2 [(0, .ref (b_a cx t)), (1, .int (nI 8))] → W p l e R s m args below meth c H locs (cells + 1 * 8) (slots + 8 * 8) Q (F0 m 112 ls [])) :
    ∀ (i j : Nat), j + i = 8 → ∀ (H : Heap) (locs : List Loc) (ls : Array Slot), x_W cx n t f (q_ds (D_Job_4 n) 8 8 (n + (298 + 1)) 1 (cel_Job_87 n) j) 4 (X_Job_3 n) H → va_S (z_A cx) s.heap H locs → lv_has ls 2 [(0, .ref (b_a cx t)), (1, .int (nI j))] → W p l e R s m args below meth c H locs (cells + 1 * j) (slots + 8 * j) Q (F0 m 87 ls []) := by
  have hx := I.1
  have hb := I.2.1
  intro i
  induction i with
  | zero =>
    intro j hj H locs ls hB hS hl
    have ej : j = 8 := by omega
    subst ej
    refine lv_iload_n hx hb (show decode prog_6_method_1_code 87 = .ok (.iload_n 1, 1) by decide +kernel) rfl (lv_at hl 1 rfl) ?_
    refine lv_bipush hx hb (show decode prog_6_method_1_code 88 = .ok (.bipush (8), 2) by decide +kernel) (v := nI 8) (by decide +kernel) ?_
    refine lv_icmp_ge hx hb (show decode prog_6_method_1_code 90 = .ok (.if_icmp .ge 22, 3) by decide +kernel) (tgt := 112) rfl (fun _ => ?_) (fun h => absurd (nI_le (Nat.le_refl _) (by decide)) h)
    exact kk H locs ls hB hS hl
  | succ i ih =>
    intro j hj H locs ls hB hS hl
    refine lv_iload_n hx hb (show decode prog_6_method_1_code 87 = .ok (.iload_n 1, 1) by decide +kernel) rfl (lv_at hl 1 rfl) ?_
    refine lv_bipush hx hb (show decode prog_6_method_1_code 88 = .ok (.bipush (8), 2) by decide +kernel) (v := nI 8) (by decide +kernel) ?_
    refine lv_icmp_ge hx hb (show decode prog_6_method_1_code 90 = .ok (.if_icmp .ge 22, 3) by decide +kernel) (tgt := 112) rfl (fun h => absurd h (nI_ge (b := 8) (by omega) (by decide))) (fun _ => ?_)
    refine lv_aload_n hx hb (show decode prog_6_method_1_code 93 = .ok (.aload_n 0, 1) by decide +kernel) rfl (lv_at hl 0 rfl) ?_
    refine x_get I hB ht rfl 5 (by decide) (index := 25) (zw (by decide +kernel) rfl) (w := (4, n + 298)) (List.getElem?_set_self (by rw [X_Job_2_len]; decide)) rfl (show decode prog_6_method_1_code 94 = .ok (.getfield 25, 3) by decide +kernel) ?_
    refine lv_iload_n hx hb (show decode prog_6_method_1_code 97 = .ok (.iload_n 1, 1) by decide +kernel) rfl (lv_at hl 1 rfl) ?_
    refine x_new I hS hB ht (q_ds_len D_Job_4_len cel_Job_87_len) 8 rfl (index := 18) (ty := tyX8) (zw (by decide +kernel) rfl) (zw (by decide +kernel) rfl) (zw (by decide +kernel) rfl) tyX8_ok d8fs (by omega) (by show _ + 8 ≤ _; omega) (show decode prog_6_method_1_code 98 = .ok (.new 18, 3) by decide +kernel) (fun H hB hS => ?_)
    refine lv_dup hx hb (show decode prog_6_method_1_code 101 = .ok (.dup, 1) by decide +kernel) rfl ?_
    refine x_callN (As := []) (rest := [.ref (b_a cx (n + (298 + 1 + 1 * j))), .int (nI j), .ref (b_a cx (n + 298))]) I (d_Pair) hS hB ht (q_ds_len D_Job_4_len cel_Job_87_len) (I.2.2.2.2.2.2.2.2.2.2.2 _ (by decide +kernel : (RX4, 24, y_Pair) ∈ k_nest)) (zw (by decide +kernel) rfl) (zw (by decide +kernel) rfl) (zw (by decide +kernel) rfl) rfl ⟨by decide, by decide, by decide +kernel⟩ ⟨hR.1, hR.2⟩ hl.1 (Nat.le_of_ble_eq_true rfl) (show decode prog_6_method_1_code 102 = .ok (.invokespecial 24, 3) by decide +kernel) ⟨by omega, by show _ + 8 + 0 ≤ _; omega⟩ (fun H locs hB hS => ?_)
    refine x_aast I hS hB ht (i0 := 298) (iv := 298 + 1 + 1 * j) (q_ds_at D_Job_4_len) rfl (q_ds_new D_Job_4_len cel_Job_87_len) rfl (by omega) (by decide) (by omega) (show decode prog_6_method_1_code 105 = .ok (.aastore, 1) by decide +kernel) (fun H locs hB hS => ?_)
    rw [q_ds_next (cel := cel_Job_87 n) D_Job_4_len rfl] at hB
    refine lv_iinc hx hb (show decode prog_6_method_1_code 106 = .ok (.iinc 1 1, 3) by decide +kernel) hl (k := 1) rfl (v := nI (j + 1)) (nI_succ j).symm (by decide) (lv' := [(1, .int (nI (j + 1))), (0, .ref (b_a cx t))]) rfl (fun ls hl => ?_)
    refine lv_goto hx hb (show decode prog_6_method_1_code 109 = .ok (.goto (-22), 3) by decide +kernel) (tgt := 87) rfl ?_
    exact b_cs (show cells + 1 * j + 1 + 0 = cells + 1 * (j + 1) by omega) (show slots + 8 * j + 8 + 0 = slots + 8 * (j + 1) by omega) (ih (j + 1) (by omega) H locs ls hB hS (lv_sub hl [1, 0] rfl))
end
def D_Job_6 (n : Nat) : List dE := q_ds (D_Job_4 n) 8 8 (n + (298 + 1)) 1 (cel_Job_87 n) 8
theorem D_Job_6_len {n : Nat} : (D_Job_6 n).length = 307 := q_ds_len D_Job_4_len cel_Job_87_len
def D_Job_7 (n : Nat) : List dE := D_Job_6 n ++ [dQ 4 40 (n + (307 + 1)) 2 0]
theorem D_Job_7_len {n : Nat} : (D_Job_7 n).length = 308 := by rw [D_Job_7, List.length_append, D_Job_6_len]; rfl
def X_Job_4 (n : Nat) : List dV := (X_Job_3 n).set 7 (4, n + 307)
theorem X_Job_4_len {n : Nat} : (X_Job_4 n).length = 14 := by rw [X_Job_4, List.length_set, X_Job_3_len]
def cel_Job_123 (n : Nat) (j : Nat) : List dE := dO 0 (F_By (n + (307 + 1 + 2 * j + 1))) :: T_By 60 (n + (307 + 1 + 2 * j + 1))
theorem cel_Job_123_len {n : Nat} : ∀ i : Nat, (cel_Job_123 n i).length = 2 := fun i => by rw [cel_Job_123, List.length_cons, T_By_len]
section
variable {p : Program} {l : Launch} {e : Env} {R : Room} {s : State} {m : MethodId} {args : Array Value} {below : List Frame} {meth : Method} {c : Code} {cells slots : Nat} {Q : State → Prop} {cx : zX} {n t : Nat} {f : Nat → va_E}
theorem l_Job_123 (I : b_In cx prog_6_method_1_code 2 RX4 p s m args meth c) (ht : t < n) (hR : 2 ≤ R.frames ∧ 35 ≤ R.locals) (hc : cells + 2 * 40 ≤ R.cells ∧ slots + 62 * 40 ≤ R.slots)
    (kk : ∀ (H : Heap) (locs : List Loc) (ls : Array Slot), x_W cx n t f (q_ds (D_Job_6 n) 4 40 (n + (307 + 1)) 2 (cel_Job_123 n) 40) 4 (X_Job_4 n) H → va_S (z_A cx) s.heap H locs → lv_has ls 2 [(0, .ref (b_a cx t)), (1, .int (nI 40))] → W p l e R s m args below meth c H locs (cells + 2 * 40) (slots + 62 * 40) Q (F0 m 150 ls [])) :
    ∀ (i j : Nat), j + i = 40 → ∀ (H : Heap) (locs : List Loc) (ls : Array Slot), x_W cx n t f (q_ds (D_Job_6 n) 4 40 (n + (307 + 1)) 2 (cel_Job_123 n) j) 4 (X_Job_4 n) H → va_S (z_A cx) s.heap H locs → lv_has ls 2 [(0, .ref (b_a cx t)), (1, .int (nI j))] → W p l e R s m args below meth c H locs (cells + 2 * j) (slots + 62 * j) Q (F0 m 123 ls []) := by
  have hx := I.1
  have hb := I.2.1
  intro i
  induction i with
  | zero =>
    intro j hj H locs ls hB hS hl
    have ej : j = 40 := by omega
    subst ej
    refine lv_iload_n hx hb (show decode prog_6_method_1_code 123 = .ok (.iload_n 1, 1) by decide +kernel) rfl (lv_at hl 1 rfl) ?_
    refine lv_bipush hx hb (show decode prog_6_method_1_code 124 = .ok (.bipush (40), 2) by decide +kernel) (v := nI 40) (by decide +kernel) ?_
    refine lv_icmp_ge hx hb (show decode prog_6_method_1_code 126 = .ok (.if_icmp .ge 24, 3) by decide +kernel) (tgt := 150) rfl (fun _ => ?_) (fun h => absurd (nI_le (Nat.le_refl _) (by decide)) h)
    exact kk H locs ls hB hS hl
  | succ i ih =>
    intro j hj H locs ls hB hS hl
    refine lv_iload_n hx hb (show decode prog_6_method_1_code 123 = .ok (.iload_n 1, 1) by decide +kernel) rfl (lv_at hl 1 rfl) ?_
    refine lv_bipush hx hb (show decode prog_6_method_1_code 124 = .ok (.bipush (40), 2) by decide +kernel) (v := nI 40) (by decide +kernel) ?_
    refine lv_icmp_ge hx hb (show decode prog_6_method_1_code 126 = .ok (.if_icmp .ge 24, 3) by decide +kernel) (tgt := 150) rfl (fun h => absurd h (nI_ge (b := 40) (by omega) (by decide))) (fun _ => ?_)
    refine lv_aload_n hx hb (show decode prog_6_method_1_code 129 = .ok (.aload_n 0, 1) by decide +kernel) rfl (lv_at hl 0 rfl) ?_
    refine x_get I hB ht rfl 7 (by decide) (index := 30) (zw (by decide +kernel) rfl) (w := (4, n + 307)) (List.getElem?_set_self (by rw [X_Job_3_len]; decide)) rfl (show decode prog_6_method_1_code 130 = .ok (.getfield 30, 3) by decide +kernel) ?_
    refine lv_iload_n hx hb (show decode prog_6_method_1_code 133 = .ok (.iload_n 1, 1) by decide +kernel) rfl (lv_at hl 1 rfl) ?_
    refine x_new I hS hB ht (q_ds_len D_Job_6_len cel_Job_123_len) 0 rfl (index := 28) (ty := tyX0) (zw (by decide +kernel) rfl) (zw (by decide +kernel) rfl) (zw (by decide +kernel) rfl) tyX0_ok d0fs (by omega) (by show _ + 2 ≤ _; omega) (show decode prog_6_method_1_code 134 = .ok (.new 28, 3) by decide +kernel) (fun H hB hS => ?_)
    refine lv_dup hx hb (show decode prog_6_method_1_code 137 = .ok (.dup, 1) by decide +kernel) rfl ?_
    refine lv_bipush hx hb (show decode prog_6_method_1_code 138 = .ok (.bipush (60), 2) by decide +kernel) (v := nI 60) (by decide +kernel) ?_
    refine x_call (As := [.int (nI 60)]) (rest := [.ref (b_a cx (n + (307 + 1 + 2 * j))), .int (nI j), .ref (b_a cx (n + 307))]) I (d_Bytes (M := 60)) hS hB ht (q_ds_len D_Job_6_len cel_Job_123_len) (zw (by decide +kernel) rfl) (zw (by decide +kernel) rfl) (zw (by decide +kernel) rfl) (zw (by decide +kernel) rfl) rfl ⟨by decide, by decide, by decide +kernel⟩ ⟨hR.1, hR.2⟩ hl.1 (Nat.le_of_ble_eq_true rfl) (show decode prog_6_method_1_code 140 = .ok (.invokespecial 34, 3) by decide +kernel) ⟨by omega, by show _ + 2 + 60 ≤ _; omega⟩ (fun H locs hB hS => ?_)
    refine x_aast I hS hB ht (i0 := 307) (iv := 307 + 1 + 2 * j) (q_ds_at D_Job_6_len) rfl (q_ds_new D_Job_6_len cel_Job_123_len) rfl (by omega) (by decide) (by omega) (show decode prog_6_method_1_code 143 = .ok (.aastore, 1) by decide +kernel) (fun H locs hB hS => ?_)
    rw [q_ds_next (cel := cel_Job_123 n) D_Job_6_len rfl] at hB
    refine lv_iinc hx hb (show decode prog_6_method_1_code 144 = .ok (.iinc 1 1, 3) by decide +kernel) hl (k := 1) rfl (v := nI (j + 1)) (nI_succ j).symm (by decide) (lv' := [(1, .int (nI (j + 1))), (0, .ref (b_a cx t))]) rfl (fun ls hl => ?_)
    refine lv_goto hx hb (show decode prog_6_method_1_code 147 = .ok (.goto (-24), 3) by decide +kernel) (tgt := 123) rfl ?_
    exact b_cs (show cells + 2 * j + 1 + 1 = cells + 2 * (j + 1) by omega) (show slots + 62 * j + 2 + 60 = slots + 62 * (j + 1) by omega) (ih (j + 1) (by omega) H locs ls hB hS (lv_sub hl [1, 0] rfl))
end
def D_Job_8 (n : Nat) : List dE := q_ds (D_Job_6 n) 4 40 (n + (307 + 1)) 2 (cel_Job_123 n) 40
theorem D_Job_8_len {n : Nat} : (D_Job_8 n).length = 388 := q_ds_len D_Job_6_len cel_Job_123_len
def D_Job_9 (n : Nat) : List dE := D_Job_8 n ++ [dA 0 40]
theorem D_Job_9_len {n : Nat} : (D_Job_9 n).length = 389 := by rw [D_Job_9, List.length_append, D_Job_8_len]; rfl
def X_Job_5 (n : Nat) : List dV := (X_Job_4 n).set 8 (4, n + 388)
theorem X_Job_5_len {n : Nat} : (X_Job_5 n).length = 14 := by rw [X_Job_5, List.length_set, X_Job_4_len]
def D_Job_10 (n : Nat) : List dE := D_Job_9 n ++ [dA 0 64]
theorem D_Job_10_len {n : Nat} : (D_Job_10 n).length = 390 := by rw [D_Job_10, List.length_append, D_Job_9_len]; rfl
def X_Job_6 (n : Nat) : List dV := (X_Job_5 n).set 10 (4, n + 389)
theorem X_Job_6_len {n : Nat} : (X_Job_6 n).length = 14 := by rw [X_Job_6, List.length_set, X_Job_5_len]
def D_Job_11 (n : Nat) : List dE := D_Job_10 n ++ [dA 0 64]
theorem D_Job_11_len {n : Nat} : (D_Job_11 n).length = 391 := by rw [D_Job_11, List.length_append, D_Job_10_len]; rfl
def X_Job_7 (n : Nat) : List dV := (X_Job_6 n).set 11 (4, n + 390)
theorem X_Job_7_len {n : Nat} : (X_Job_7 n).length = 14 := by rw [X_Job_7, List.length_set, X_Job_6_len]
def D_Job_12 (n : Nat) : List dE := D_Job_11 n ++ dO 6 (F_Layout (n + (391 + 1))) :: T_Layout (n + (391 + 1))
theorem D_Job_12_len {n : Nat} : (D_Job_12 n).length = 483 := by rw [D_Job_12, List.length_append, D_Job_11_len, List.length_cons, T_Layout_len]
def X_Job_8 (n : Nat) : List dV := (X_Job_7 n).set 13 (4, n + 391)
theorem X_Job_8_len {n : Nat} : (X_Job_8 n).length = 14 := by rw [X_Job_8, List.length_set, X_Job_7_len]
def T_Job (n : Nat) : List dE := D_Job_12 n
theorem T_Job_len {n : Nat} : (T_Job n).length = 483 := D_Job_12_len
def F_Job (n : Nat) : List dV := X_Job_8 n
theorem d_Job {cx : zX} : dOk y_Job prog_6_method_1_code 2 3 54 483 5482 cx [] 4 (T_Job) (F_Job) := by
  intro n t f hf ht
  refine b_enter rfl (by decide) (Nat.le_of_ble_eq_true rfl) (fun p l e s m below meth c ls I hB hl hS => ?_)
  have hl : lv_has ls 2 [(0, .ref (b_a cx t))] := hl
  have hx := I.1
  have hb := I.2.1
  have hB : x_W cx n t f (D_Job_0 n) 4 (X_Job_0 n) s.heap := x_W0 hB hf
  refine lv_aload_n hx hb (show decode prog_6_method_1_code 0 = .ok (.aload_n 0, 1) by decide +kernel) rfl (lv_at hl 0 rfl) ?_
  refine b_obj I (idx := 3) (zw (by decide +kernel) rfl) hl.1 (show decode prog_6_method_1_code 1 = .ok (.invokespecial 3, 3) by decide +kernel) (Nat.le_of_ble_eq_true rfl) (Nat.le_of_ble_eq_true rfl) ?_
  refine lv_aload_n hx hb (show decode prog_6_method_1_code 4 = .ok (.aload_n 0, 1) by decide +kernel) rfl (lv_at hl 0 rfl) ?_
  refine lv_bipush hx hb (show decode prog_6_method_1_code 5 = .ok (.bipush (40), 2) by decide +kernel) (v := nI 40) (by decide +kernel) ?_
  refine x_newq I hS hB ht D_Job_0_len (C := RX7) (index := 9) (zw (by decide +kernel) rfl) (by decide) 2 rfl (n + (0 + 1)) 7 40 (by decide +kernel) (by decide +kernel) (by decide) (Nat.le_of_ble_eq_true rfl) (Nat.le_of_ble_eq_true rfl) (show decode prog_6_method_1_code 7 = .ok (.anewarray 9, 3) by decide +kernel) (fun H hB hS => ?_)
  have hB : x_W cx n t f (D_Job_1 n) 4 (X_Job_0 n) H := hB
  refine x_put I hS hB ht rfl 1 (by decide) (index := 11) (zw (by decide +kernel) rfl) rfl (ty := .array (.object "JobText$Operator")) (4, n + 0) rfl (by decide +kernel) rfl rfl (by rw [X_Job_0_len]; decide) (show decode prog_6_method_1_code 10 = .ok (.putfield 11, 3) by decide +kernel) (fun H locs hB hS => ?_)
  have hB : x_W cx n t f (D_Job_1 n) 4 (X_Job_1 n) H := hB
  refine lv_iconst hx hb (show decode prog_6_method_1_code 13 = .ok (.iconst (0), 1) by decide +kernel) (v := nI 0) (by decide +kernel) ?_
  refine lv_istore_n hx hb (show decode prog_6_method_1_code 14 = .ok (.istore_n 1, 1) by decide +kernel) rfl hl (by decide) (lv' := [(1, .int (nI 0)), (0, .ref (b_a cx t))]) rfl (fun ls hl => ?_)
  have hl : lv_has ls 2 [(0, .ref (b_a cx t)), (1, .int (nI 0))] := lv_sub hl [1, 0] rfl
  refine b_cs (c2 := 1 + 7 * 0) (s2 := 40 + 47 * 0) rfl rfl (l_Job_15 (cells := 1) (slots := 40) I ht ⟨(Nat.le_of_ble_eq_true rfl), (Nat.le_of_ble_eq_true rfl)⟩ ⟨(Nat.le_of_ble_eq_true rfl), (Nat.le_of_ble_eq_true rfl)⟩ (fun H locs ls hB hS hl => ?_) 40 0 rfl H locs ls (by rw [q_ds_0]; exact hB) hS hl)
  have hB : x_W cx n t f (D_Job_2 n) 4 (X_Job_1 n) H := hB
  refine lv_aload_n hx hb (show decode prog_6_method_1_code 40 = .ok (.aload_n 0, 1) by decide +kernel) rfl (lv_at hl 0 rfl) ?_
  refine lv_bipush hx hb (show decode prog_6_method_1_code 41 = .ok (.bipush (16), 2) by decide +kernel) (v := nI 16) (by decide +kernel) ?_
  refine x_newq I hS hB ht D_Job_2_len (C := RX8) (index := 18) (zw (by decide +kernel) rfl) (by decide) 4 rfl (n + (281 + 1)) 1 16 (by decide +kernel) (by decide +kernel) (by decide) (Nat.le_of_ble_eq_true rfl) (Nat.le_of_ble_eq_true rfl) (show decode prog_6_method_1_code 43 = .ok (.anewarray 18, 3) by decide +kernel) (fun H hB hS => ?_)
  have hB : x_W cx n t f (D_Job_3 n) 4 (X_Job_1 n) H := hB
  refine x_put I hS hB ht rfl 3 (by decide) (index := 20) (zw (by decide +kernel) rfl) rfl (ty := .array (.object "JobText$Pair")) (4, n + 281) rfl (by decide +kernel) rfl rfl (by rw [X_Job_1_len]; decide) (show decode prog_6_method_1_code 46 = .ok (.putfield 20, 3) by decide +kernel) (fun H locs hB hS => ?_)
  have hB : x_W cx n t f (D_Job_3 n) 4 (X_Job_2 n) H := hB
  refine lv_iconst hx hb (show decode prog_6_method_1_code 49 = .ok (.iconst (0), 1) by decide +kernel) (v := nI 0) (by decide +kernel) ?_
  refine lv_istore_n hx hb (show decode prog_6_method_1_code 50 = .ok (.istore_n 1, 1) by decide +kernel) rfl hl (by decide) (lv' := [(1, .int (nI 0)), (0, .ref (b_a cx t))]) rfl (fun ls hl => ?_)
  have hl : lv_has ls 2 [(0, .ref (b_a cx t)), (1, .int (nI 0))] := lv_sub hl [1, 0] rfl
  refine b_cs (c2 := 282 + 1 * 0) (s2 := 1936 + 8 * 0) rfl rfl (l_Job_51 (cells := 282) (slots := 1936) I ht ⟨(Nat.le_of_ble_eq_true rfl), (Nat.le_of_ble_eq_true rfl)⟩ ⟨(Nat.le_of_ble_eq_true rfl), (Nat.le_of_ble_eq_true rfl)⟩ (fun H locs ls hB hS hl => ?_) 16 0 rfl H locs ls (by rw [q_ds_0]; exact hB) hS hl)
  have hB : x_W cx n t f (D_Job_4 n) 4 (X_Job_2 n) H := hB
  refine lv_aload_n hx hb (show decode prog_6_method_1_code 76 = .ok (.aload_n 0, 1) by decide +kernel) rfl (lv_at hl 0 rfl) ?_
  refine lv_bipush hx hb (show decode prog_6_method_1_code 77 = .ok (.bipush (8), 2) by decide +kernel) (v := nI 8) (by decide +kernel) ?_
  refine x_newq I hS hB ht D_Job_4_len (C := RX8) (index := 18) (zw (by decide +kernel) rfl) (by decide) 4 rfl (n + (298 + 1)) 1 8 (by decide +kernel) (by decide +kernel) (by decide) (Nat.le_of_ble_eq_true rfl) (Nat.le_of_ble_eq_true rfl) (show decode prog_6_method_1_code 79 = .ok (.anewarray 18, 3) by decide +kernel) (fun H hB hS => ?_)
  have hB : x_W cx n t f (D_Job_5 n) 4 (X_Job_2 n) H := hB
  refine x_put I hS hB ht rfl 5 (by decide) (index := 25) (zw (by decide +kernel) rfl) rfl (ty := .array (.object "JobText$Pair")) (4, n + 298) rfl (by decide +kernel) rfl rfl (by rw [X_Job_2_len]; decide) (show decode prog_6_method_1_code 82 = .ok (.putfield 25, 3) by decide +kernel) (fun H locs hB hS => ?_)
  have hB : x_W cx n t f (D_Job_5 n) 4 (X_Job_3 n) H := hB
  refine lv_iconst hx hb (show decode prog_6_method_1_code 85 = .ok (.iconst (0), 1) by decide +kernel) (v := nI 0) (by decide +kernel) ?_
  refine lv_istore_n hx hb (show decode prog_6_method_1_code 86 = .ok (.istore_n 1, 1) by decide +kernel) rfl hl (by decide) (lv' := [(1, .int (nI 0)), (0, .ref (b_a cx t))]) rfl (fun ls hl => ?_)
  have hl : lv_has ls 2 [(0, .ref (b_a cx t)), (1, .int (nI 0))] := lv_sub hl [1, 0] rfl
  refine b_cs (c2 := 299 + 1 * 0) (s2 := 2072 + 8 * 0) rfl rfl (l_Job_87 (cells := 299) (slots := 2072) I ht ⟨(Nat.le_of_ble_eq_true rfl), (Nat.le_of_ble_eq_true rfl)⟩ ⟨(Nat.le_of_ble_eq_true rfl), (Nat.le_of_ble_eq_true rfl)⟩ (fun H locs ls hB hS hl => ?_) 8 0 rfl H locs ls (by rw [q_ds_0]; exact hB) hS hl)
  have hB : x_W cx n t f (D_Job_6 n) 4 (X_Job_3 n) H := hB
  refine lv_aload_n hx hb (show decode prog_6_method_1_code 112 = .ok (.aload_n 0, 1) by decide +kernel) rfl (lv_at hl 0 rfl) ?_
  refine lv_bipush hx hb (show decode prog_6_method_1_code 113 = .ok (.bipush (40), 2) by decide +kernel) (v := nI 40) (by decide +kernel) ?_
  refine x_newq I hS hB ht D_Job_6_len (C := RX0) (index := 28) (zw (by decide +kernel) rfl) (by decide) 0 rfl (n + (307 + 1)) 2 40 (by decide +kernel) (by decide +kernel) (by decide) (Nat.le_of_ble_eq_true rfl) (Nat.le_of_ble_eq_true rfl) (show decode prog_6_method_1_code 115 = .ok (.anewarray 28, 3) by decide +kernel) (fun H hB hS => ?_)
  have hB : x_W cx n t f (D_Job_7 n) 4 (X_Job_3 n) H := hB
  refine x_put I hS hB ht rfl 7 (by decide) (index := 30) (zw (by decide +kernel) rfl) rfl (ty := .array (.object "JobText$Bytes")) (4, n + 307) rfl (by decide +kernel) rfl rfl (by rw [X_Job_3_len]; decide) (show decode prog_6_method_1_code 118 = .ok (.putfield 30, 3) by decide +kernel) (fun H locs hB hS => ?_)
  have hB : x_W cx n t f (D_Job_7 n) 4 (X_Job_4 n) H := hB
  refine lv_iconst hx hb (show decode prog_6_method_1_code 121 = .ok (.iconst (0), 1) by decide +kernel) (v := nI 0) (by decide +kernel) ?_
  refine lv_istore_n hx hb (show decode prog_6_method_1_code 122 = .ok (.istore_n 1, 1) by decide +kernel) rfl hl (by decide) (lv' := [(1, .int (nI 0)), (0, .ref (b_a cx t))]) rfl (fun ls hl => ?_)
  have hl : lv_has ls 2 [(0, .ref (b_a cx t)), (1, .int (nI 0))] := lv_sub hl [1, 0] rfl
  refine b_cs (c2 := 308 + 2 * 0) (s2 := 2176 + 62 * 0) rfl rfl (l_Job_123 (cells := 308) (slots := 2176) I ht ⟨(Nat.le_of_ble_eq_true rfl), (Nat.le_of_ble_eq_true rfl)⟩ ⟨(Nat.le_of_ble_eq_true rfl), (Nat.le_of_ble_eq_true rfl)⟩ (fun H locs ls hB hS hl => ?_) 40 0 rfl H locs ls (by rw [q_ds_0]; exact hB) hS hl)
  have hB : x_W cx n t f (D_Job_8 n) 4 (X_Job_4 n) H := hB
  refine lv_aload_n hx hb (show decode prog_6_method_1_code 150 = .ok (.aload_n 0, 1) by decide +kernel) rfl (lv_at hl 0 rfl) ?_
  refine lv_bipush hx hb (show decode prog_6_method_1_code 151 = .ok (.bipush (40), 2) by decide +kernel) (v := nI 40) (by decide +kernel) ?_
  refine x_newa I hS hB ht D_Job_8_len (atype := .int) (zw (by decide +kernel) rfl) 0 rfl (fun C h => by cases h) 40 (fun cA => rfl) (by decide +kernel) (by decide +kernel) (by decide) (Nat.le_of_ble_eq_true rfl) (Nat.le_of_ble_eq_true rfl) (show decode prog_6_method_1_code 153 = .ok (.newarray .int, 2) by decide +kernel) (fun H hB hS => ?_)
  have hB : x_W cx n t f (D_Job_9 n) 4 (X_Job_4 n) H := hB
  refine x_put I hS hB ht rfl 8 (by decide) (index := 37) (zw (by decide +kernel) rfl) rfl (ty := .array (.int)) (4, n + 388) rfl (by decide +kernel) rfl rfl (by rw [X_Job_4_len]; decide) (show decode prog_6_method_1_code 155 = .ok (.putfield 37, 3) by decide +kernel) (fun H locs hB hS => ?_)
  have hB : x_W cx n t f (D_Job_9 n) 4 (X_Job_5 n) H := hB
  refine lv_aload_n hx hb (show decode prog_6_method_1_code 158 = .ok (.aload_n 0, 1) by decide +kernel) rfl (lv_at hl 0 rfl) ?_
  refine lv_bipush hx hb (show decode prog_6_method_1_code 159 = .ok (.bipush (64), 2) by decide +kernel) (v := nI 64) (by decide +kernel) ?_
  refine x_newa I hS hB ht D_Job_9_len (atype := .int) (zw (by decide +kernel) rfl) 0 rfl (fun C h => by cases h) 64 (fun cA => rfl) (by decide +kernel) (by decide +kernel) (by decide) (Nat.le_of_ble_eq_true rfl) (Nat.le_of_ble_eq_true rfl) (show decode prog_6_method_1_code 161 = .ok (.newarray .int, 2) by decide +kernel) (fun H hB hS => ?_)
  have hB : x_W cx n t f (D_Job_10 n) 4 (X_Job_5 n) H := hB
  refine x_put I hS hB ht rfl 10 (by decide) (index := 41) (zw (by decide +kernel) rfl) rfl (ty := .array (.int)) (4, n + 389) rfl (by decide +kernel) rfl rfl (by rw [X_Job_5_len]; decide) (show decode prog_6_method_1_code 163 = .ok (.putfield 41, 3) by decide +kernel) (fun H locs hB hS => ?_)
  have hB : x_W cx n t f (D_Job_10 n) 4 (X_Job_6 n) H := hB
  refine lv_aload_n hx hb (show decode prog_6_method_1_code 166 = .ok (.aload_n 0, 1) by decide +kernel) rfl (lv_at hl 0 rfl) ?_
  refine lv_bipush hx hb (show decode prog_6_method_1_code 167 = .ok (.bipush (64), 2) by decide +kernel) (v := nI 64) (by decide +kernel) ?_
  refine x_newa I hS hB ht D_Job_10_len (atype := .int) (zw (by decide +kernel) rfl) 0 rfl (fun C h => by cases h) 64 (fun cA => rfl) (by decide +kernel) (by decide +kernel) (by decide) (Nat.le_of_ble_eq_true rfl) (Nat.le_of_ble_eq_true rfl) (show decode prog_6_method_1_code 169 = .ok (.newarray .int, 2) by decide +kernel) (fun H hB hS => ?_)
  have hB : x_W cx n t f (D_Job_11 n) 4 (X_Job_6 n) H := hB
  refine x_put I hS hB ht rfl 11 (by decide) (index := 44) (zw (by decide +kernel) rfl) rfl (ty := .array (.int)) (4, n + 390) rfl (by decide +kernel) rfl rfl (by rw [X_Job_6_len]; decide) (show decode prog_6_method_1_code 171 = .ok (.putfield 44, 3) by decide +kernel) (fun H locs hB hS => ?_)
  have hB : x_W cx n t f (D_Job_11 n) 4 (X_Job_7 n) H := hB
  refine lv_aload_n hx hb (show decode prog_6_method_1_code 174 = .ok (.aload_n 0, 1) by decide +kernel) rfl (lv_at hl 0 rfl) ?_
  refine x_new I hS hB ht D_Job_11_len 6 rfl (index := 47) (ty := tyX6) (zw (by decide +kernel) rfl) (zw (by decide +kernel) rfl) (zw (by decide +kernel) rfl) tyX6_ok d6fs (Nat.le_of_ble_eq_true rfl) (Nat.le_of_ble_eq_true rfl) (show decode prog_6_method_1_code 175 = .ok (.new 47, 3) by decide +kernel) (fun H hB hS => ?_)
  refine lv_dup hx hb (show decode prog_6_method_1_code 178 = .ok (.dup, 1) by decide +kernel) rfl ?_
  refine x_call (As := []) (rest := [.ref (b_a cx (n + 391)), .ref (b_a cx t)]) I (d_Layout) hS hB ht D_Job_11_len (zw (by decide +kernel) rfl) (zw (by decide +kernel) rfl) (zw (by decide +kernel) rfl) (zw (by decide +kernel) rfl) rfl ⟨by decide, by decide, by decide +kernel⟩ ⟨(Nat.le_of_ble_eq_true rfl), (Nat.le_of_ble_eq_true rfl)⟩ hl.1 (Nat.le_of_ble_eq_true rfl) (show decode prog_6_method_1_code 179 = .ok (.invokespecial 49, 3) by decide +kernel) ⟨(Nat.le_of_ble_eq_true rfl), (Nat.le_of_ble_eq_true rfl)⟩ (fun H locs hB hS => ?_)
  have hB : x_W cx n t f (D_Job_12 n) 4 (X_Job_7 n) H := hB
  refine x_put I hS hB ht rfl 13 (by decide) (index := 50) (zw (by decide +kernel) rfl) rfl (ty := .object "JobText$Layout") (4, n + 391) rfl (by decide +kernel) rfl rfl (by rw [X_Job_7_len]; decide) (show decode prog_6_method_1_code 182 = .ok (.putfield 50, 3) by decide +kernel) (fun H locs hB hS => ?_)
  have hB : x_W cx n t f (D_Job_12 n) 4 (X_Job_8 n) H := hB
  exact x_ret I (T := T_Job) (F := F_Job) hB rfl rfl hS (Nat.le_of_ble_eq_true rfl) (Nat.le_of_ble_eq_true rfl) (show decode prog_6_method_1_code 185 = .ok (.return_, 1) by decide +kernel)
