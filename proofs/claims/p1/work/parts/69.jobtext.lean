/-! ===== constructors: JobText (printed by wip/p1/gen/p64.py) ===== -/
def y_JobText : MethodName := ⟨RX11, "<init>", "()V"⟩
def D_JobText_0 (n : Nat) : List dE := []
theorem D_JobText_0_len {n : Nat} : (D_JobText_0 n).length = 0 := rfl
def X_JobText_0 (n : Nat) : List dV := d_df 11
theorem X_JobText_0_len {n : Nat} : (X_JobText_0 n).length = 12 := by
  show (d_df 11).length = 12
  decide +kernel
def D_JobText_1 (n : Nat) : List dE := D_JobText_0 n ++ [dQ 4 6 (n + (0 + 1)) 2 0]
theorem D_JobText_1_len {n : Nat} : (D_JobText_1 n).length = 1 := by rw [D_JobText_1, List.length_append, D_JobText_0_len]; rfl
def cel_JobText_12 (n : Nat) (j : Nat) : List dE := dO 0 (F_By (n + (0 + 1 + 2 * j + 1))) :: T_By 1200 (n + (0 + 1 + 2 * j + 1))
theorem cel_JobText_12_len {n : Nat} : ∀ i : Nat, (cel_JobText_12 n i).length = 2 := fun i => by rw [cel_JobText_12, List.length_cons, T_By_len]
section
variable {p : Program} {l : Launch} {e : Env} {R : Room} {s : State} {m : MethodId} {args : Array Value} {below : List Frame} {meth : Method} {c : Code} {cells slots : Nat} {Q : State → Prop} {cx : zX} {n t : Nat} {f : Nat → va_E}
theorem l_JobText_12 (I : b_In cx prog_1_method_1_code 4 RX11 p s m args meth c) (ht : t < n) (hR : 2 ≤ R.frames ∧ 35 ≤ R.locals) (hc : cells + 2 * 6 ≤ R.cells ∧ slots + 1202 * 6 ≤ R.slots)
    (kk : ∀ (H : Heap) (locs : List Loc) (ls : Array Slot), x_W cx n t f (q_ds (D_JobText_0 n) 4 6 (n + (0 + 1)) 2 (cel_JobText_12 n) 6) 11 (X_JobText_0 n) H → va_S (z_A cx) s.heap H locs → lv_has ls 4 [(0, .ref (b_a cx t)), (1, .ref (b_a cx (n + 0))), (2, .int (nI 6))] → W p l e R s m args below meth c H locs (cells + 2 * 6) (slots + 1202 * 6) Q (F0 m 37 ls [])) :
    ∀ (i j : Nat), j + i = 6 → ∀ (H : Heap) (locs : List Loc) (ls : Array Slot), x_W cx n t f (q_ds (D_JobText_0 n) 4 6 (n + (0 + 1)) 2 (cel_JobText_12 n) j) 11 (X_JobText_0 n) H → va_S (z_A cx) s.heap H locs → lv_has ls 4 [(0, .ref (b_a cx t)), (1, .ref (b_a cx (n + 0))), (2, .int (nI j))] → W p l e R s m args below meth c H locs (cells + 2 * j) (slots + 1202 * j) Q (F0 m 12 ls []) := by
  have hx := I.1
  have hb := I.2.1
  intro i
  induction i with
  | zero =>
    intro j hj H locs ls hB hS hl
    have ej : j = 6 := by omega
    subst ej
    refine lv_iload_n hx hb (show decode prog_1_method_1_code 12 = .ok (.iload_n 2, 1) by decide +kernel) rfl (lv_at hl 2 rfl) ?_
    refine lv_bipush hx hb (show decode prog_1_method_1_code 13 = .ok (.bipush (6), 2) by decide +kernel) (v := nI 6) (by decide +kernel) ?_
    refine lv_icmp_ge hx hb (show decode prog_1_method_1_code 15 = .ok (.if_icmp .ge 22, 3) by decide +kernel) (tgt := 37) rfl (fun _ => ?_) (fun h => absurd (nI_le (Nat.le_refl _) (by decide)) h)
    exact kk H locs ls hB hS hl
  | succ i ih =>
    intro j hj H locs ls hB hS hl
    refine lv_iload_n hx hb (show decode prog_1_method_1_code 12 = .ok (.iload_n 2, 1) by decide +kernel) rfl (lv_at hl 2 rfl) ?_
    refine lv_bipush hx hb (show decode prog_1_method_1_code 13 = .ok (.bipush (6), 2) by decide +kernel) (v := nI 6) (by decide +kernel) ?_
    refine lv_icmp_ge hx hb (show decode prog_1_method_1_code 15 = .ok (.if_icmp .ge 22, 3) by decide +kernel) (tgt := 37) rfl (fun h => absurd h (nI_ge (b := 6) (by omega) (by decide))) (fun _ => ?_)
    refine lv_aload_n hx hb (show decode prog_1_method_1_code 18 = .ok (.aload_n 1, 1) by decide +kernel) rfl (lv_at hl 1 rfl) ?_
    refine lv_iload_n hx hb (show decode prog_1_method_1_code 19 = .ok (.iload_n 2, 1) by decide +kernel) rfl (lv_at hl 2 rfl) ?_
    refine x_new I hS hB ht (q_ds_len D_JobText_0_len cel_JobText_12_len) 0 rfl (index := 9) (ty := tyX0) (zw (by decide +kernel) rfl) (zw (by decide +kernel) rfl) (zw (by decide +kernel) rfl) tyX0_ok d0fs (by omega) (by show _ + 2 ≤ _; omega) (show decode prog_1_method_1_code 20 = .ok (.new 9, 3) by decide +kernel) (fun H hB hS => ?_)
    refine lv_dup hx hb (show decode prog_1_method_1_code 23 = .ok (.dup, 1) by decide +kernel) rfl ?_
    refine lv_sipush hx hb (show decode prog_1_method_1_code 24 = .ok (.sipush (1200), 3) by decide +kernel) (v := nI 1200) (by decide +kernel) ?_
    refine x_call (As := [.int (nI 1200)]) (rest := [.ref (b_a cx (n + (0 + 1 + 2 * j))), .int (nI j), .ref (b_a cx (n + 0))]) I (d_Bytes (M := 1200)) hS hB ht (q_ds_len D_JobText_0_len cel_JobText_12_len) (zw (by decide +kernel) rfl) (zw (by decide +kernel) rfl) (zw (by decide +kernel) rfl) (zw (by decide +kernel) rfl) rfl ⟨by decide, by decide, by decide +kernel⟩ ⟨hR.1, hR.2⟩ hl.1 (Nat.le_of_ble_eq_true rfl) (show decode prog_1_method_1_code 27 = .ok (.invokespecial 11, 3) by decide +kernel) ⟨by omega, by show _ + 2 + 1200 ≤ _; omega⟩ (fun H locs hB hS => ?_)
    refine x_aast I hS hB ht (i0 := 0) (iv := 0 + 1 + 2 * j) (q_ds_at D_JobText_0_len) rfl (q_ds_new D_JobText_0_len cel_JobText_12_len) rfl (by omega) (by decide) (by omega) (show decode prog_1_method_1_code 30 = .ok (.aastore, 1) by decide +kernel) (fun H locs hB hS => ?_)
    rw [q_ds_next (cel := cel_JobText_12 n) D_JobText_0_len rfl] at hB
    refine lv_iinc hx hb (show decode prog_1_method_1_code 31 = .ok (.iinc 2 1, 3) by decide +kernel) hl (k := 2) rfl (v := nI (j + 1)) (nI_succ j).symm (by decide) (lv' := [(2, .int (nI (j + 1))), (0, .ref (b_a cx t)), (1, .ref (b_a cx (n + 0)))]) rfl (fun ls hl => ?_)
    refine lv_goto hx hb (show decode prog_1_method_1_code 34 = .ok (.goto (-22), 3) by decide +kernel) (tgt := 12) rfl ?_
    exact b_cs (show cells + 2 * j + 1 + 1 = cells + 2 * (j + 1) by omega) (show slots + 1202 * j + 2 + 1200 = slots + 1202 * (j + 1) by omega) (ih (j + 1) (by omega) H locs ls hB hS (lv_sub hl [1, 2, 0] rfl))
end
def D_JobText_2 (n : Nat) : List dE := q_ds (D_JobText_0 n) 4 6 (n + (0 + 1)) 2 (cel_JobText_12 n) 6
theorem D_JobText_2_len {n : Nat} : (D_JobText_2 n).length = 13 := q_ds_len D_JobText_0_len cel_JobText_12_len
def D_JobText_3 (n : Nat) : List dE := D_JobText_2 n ++ dO 1 (F_Fa (n + (13 + 1))) :: T_Nil (n + (13 + 1))
theorem D_JobText_3_len {n : Nat} : (D_JobText_3 n).length = 14 := by rw [D_JobText_3, List.length_append, D_JobText_2_len, List.length_cons, T_Nil_len]
def D_JobText_4 (n : Nat) : List dE := D_JobText_3 n ++ dO 0 (F_By (n + (14 + 1))) :: T_By 1200 (n + (14 + 1))
theorem D_JobText_4_len {n : Nat} : (D_JobText_4 n).length = 16 := by rw [D_JobText_4, List.length_append, D_JobText_3_len, List.length_cons, T_By_len]
def X_JobText_1 (n : Nat) : List dV := (X_JobText_0 n).set 0 (4, n + 14)
theorem X_JobText_1_len {n : Nat} : (X_JobText_1 n).length = 12 := by rw [X_JobText_1, List.length_set, X_JobText_0_len]
def X_JobText_2 (n : Nat) : List dV := (X_JobText_1 n).set 1 (4, n + 0)
theorem X_JobText_2_len {n : Nat} : (X_JobText_2 n).length = 12 := by rw [X_JobText_2, List.length_set, X_JobText_1_len]
def D_JobText_5 (n : Nat) : List dE := D_JobText_4 n ++ dO 0 (F_By (n + (16 + 1))) :: T_By 9728 (n + (16 + 1))
theorem D_JobText_5_len {n : Nat} : (D_JobText_5 n).length = 18 := by rw [D_JobText_5, List.length_append, D_JobText_4_len, List.length_cons, T_By_len]
def X_JobText_3 (n : Nat) : List dV := (X_JobText_2 n).set 2 (4, n + 16)
theorem X_JobText_3_len {n : Nat} : (X_JobText_3 n).length = 12 := by rw [X_JobText_3, List.length_set, X_JobText_2_len]
def D_JobText_6 (n : Nat) : List dE := D_JobText_5 n ++ [dQ 5 2 (n + (18 + 1)) 484 0]
theorem D_JobText_6_len {n : Nat} : (D_JobText_6 n).length = 19 := by rw [D_JobText_6, List.length_append, D_JobText_5_len]; rfl
def X_JobText_4 (n : Nat) : List dV := (X_JobText_3 n).set 3 (4, n + 18)
theorem X_JobText_4_len {n : Nat} : (X_JobText_4 n).length = 12 := by rw [X_JobText_4, List.length_set, X_JobText_3_len]
def cel_JobText_88 (n : Nat) (j : Nat) : List dE := dO 4 (F_Job (n + (18 + 1 + 484 * j + 1))) :: T_Job (n + (18 + 1 + 484 * j + 1))
theorem cel_JobText_88_len {n : Nat} : ∀ i : Nat, (cel_JobText_88 n i).length = 484 := fun i => by rw [cel_JobText_88, List.length_cons, T_Job_len]
section
variable {p : Program} {l : Launch} {e : Env} {R : Room} {s : State} {m : MethodId} {args : Array Value} {below : List Frame} {meth : Method} {c : Code} {cells slots : Nat} {Q : State → Prop} {cx : zX} {n t : Nat} {f : Nat → va_E}
theorem l_JobText_88 (I : b_In cx prog_1_method_1_code 4 RX11 p s m args meth c) (ht : t < n) (hR : 4 ≤ R.frames ∧ 75 ≤ R.locals) (hc : cells + 484 * 2 ≤ R.cells ∧ slots + 5496 * 2 ≤ R.slots)
    (kk : ∀ (H : Heap) (locs : List Loc) (ls : Array Slot), x_W cx n t f (q_ds (D_JobText_5 n) 5 2 (n + (18 + 1)) 484 (cel_JobText_88 n) 2) 11 (X_JobText_4 n) H → va_S (z_A cx) s.heap H locs → lv_has ls 4 [(0, .ref (b_a cx t)), (1, .ref (b_a cx (n + 0))), (2, .ref (b_a cx (n + 13))), (3, .int (nI 2))] → W p l e R s m args below meth c H locs (cells + 484 * 2) (slots + 5496 * 2) Q (F0 m 112 ls [])) :
    ∀ (i j : Nat), j + i = 2 → ∀ (H : Heap) (locs : List Loc) (ls : Array Slot), x_W cx n t f (q_ds (D_JobText_5 n) 5 2 (n + (18 + 1)) 484 (cel_JobText_88 n) j) 11 (X_JobText_4 n) H → va_S (z_A cx) s.heap H locs → lv_has ls 4 [(0, .ref (b_a cx t)), (1, .ref (b_a cx (n + 0))), (2, .ref (b_a cx (n + 13))), (3, .int (nI j))] → W p l e R s m args below meth c H locs (cells + 484 * j) (slots + 5496 * j) Q (F0 m 88 ls []) := by
  have hx := I.1
  have hb := I.2.1
  intro i
  induction i with
  | zero =>
    intro j hj H locs ls hB hS hl
    have ej : j = 2 := by omega
    subst ej
    refine lv_iload_n hx hb (show decode prog_1_method_1_code 88 = .ok (.iload_n 3, 1) by decide +kernel) rfl (lv_at hl 3 rfl) ?_
    refine lv_iconst hx hb (show decode prog_1_method_1_code 89 = .ok (.iconst (2), 1) by decide +kernel) (v := nI 2) (by decide +kernel) ?_
    refine lv_icmp_ge hx hb (show decode prog_1_method_1_code 90 = .ok (.if_icmp .ge 22, 3) by decide +kernel) (tgt := 112) rfl (fun _ => ?_) (fun h => absurd (nI_le (Nat.le_refl _) (by decide)) h)
    exact kk H locs ls hB hS hl
  | succ i ih =>
    intro j hj H locs ls hB hS hl
    refine lv_iload_n hx hb (show decode prog_1_method_1_code 88 = .ok (.iload_n 3, 1) by decide +kernel) rfl (lv_at hl 3 rfl) ?_
    refine lv_iconst hx hb (show decode prog_1_method_1_code 89 = .ok (.iconst (2), 1) by decide +kernel) (v := nI 2) (by decide +kernel) ?_
    refine lv_icmp_ge hx hb (show decode prog_1_method_1_code 90 = .ok (.if_icmp .ge 22, 3) by decide +kernel) (tgt := 112) rfl (fun h => absurd h (nI_ge (b := 2) (by omega) (by decide))) (fun _ => ?_)
    refine lv_aload_n hx hb (show decode prog_1_method_1_code 93 = .ok (.aload_n 0, 1) by decide +kernel) rfl (lv_at hl 0 rfl) ?_
    refine x_get I hB ht rfl 3 (by decide) (index := 30) (zw (by decide +kernel) rfl) (w := (4, n + 18)) (List.getElem?_set_self (by rw [X_JobText_3_len]; decide)) rfl (show decode prog_1_method_1_code 94 = .ok (.getfield 30, 3) by decide +kernel) ?_
    refine lv_iload_n hx hb (show decode prog_1_method_1_code 97 = .ok (.iload_n 3, 1) by decide +kernel) rfl (lv_at hl 3 rfl) ?_
    refine x_new I hS hB ht (q_ds_len D_JobText_5_len cel_JobText_88_len) 4 rfl (index := 28) (ty := tyX4) (zw (by decide +kernel) rfl) (zw (by decide +kernel) rfl) (zw (by decide +kernel) rfl) tyX4_ok d4fs (by omega) (by show _ + 14 ≤ _; omega) (show decode prog_1_method_1_code 98 = .ok (.new 28, 3) by decide +kernel) (fun H hB hS => ?_)
    refine lv_dup hx hb (show decode prog_1_method_1_code 101 = .ok (.dup, 1) by decide +kernel) rfl ?_
    refine x_call (As := []) (rest := [.ref (b_a cx (n + (18 + 1 + 484 * j))), .int (nI j), .ref (b_a cx (n + 18))]) I (d_Job) hS hB ht (q_ds_len D_JobText_5_len cel_JobText_88_len) (zw (by decide +kernel) rfl) (zw (by decide +kernel) rfl) (zw (by decide +kernel) rfl) (zw (by decide +kernel) rfl) rfl ⟨by decide, by decide, by decide +kernel⟩ ⟨hR.1, hR.2⟩ hl.1 (Nat.le_of_ble_eq_true rfl) (show decode prog_1_method_1_code 102 = .ok (.invokespecial 34, 3) by decide +kernel) ⟨by omega, by show _ + 14 + 5482 ≤ _; omega⟩ (fun H locs hB hS => ?_)
    refine x_aast I hS hB ht (i0 := 18) (iv := 18 + 1 + 484 * j) (q_ds_at D_JobText_5_len) rfl (q_ds_new D_JobText_5_len cel_JobText_88_len) rfl (by omega) (by decide) (by omega) (show decode prog_1_method_1_code 105 = .ok (.aastore, 1) by decide +kernel) (fun H locs hB hS => ?_)
    rw [q_ds_next (cel := cel_JobText_88 n) D_JobText_5_len rfl] at hB
    refine lv_iinc hx hb (show decode prog_1_method_1_code 106 = .ok (.iinc 3 1, 3) by decide +kernel) hl (k := 3) rfl (v := nI (j + 1)) (nI_succ j).symm (by decide) (lv' := [(3, .int (nI (j + 1))), (0, .ref (b_a cx t)), (1, .ref (b_a cx (n + 0))), (2, .ref (b_a cx (n + 13)))]) rfl (fun ls hl => ?_)
    refine lv_goto hx hb (show decode prog_1_method_1_code 109 = .ok (.goto (-21), 3) by decide +kernel) (tgt := 88) rfl ?_
    exact b_cs (show cells + 484 * j + 1 + 483 = cells + 484 * (j + 1) by omega) (show slots + 5496 * j + 14 + 5482 = slots + 5496 * (j + 1) by omega) (ih (j + 1) (by omega) H locs ls hB hS (lv_sub hl [1, 2, 3, 0] rfl))
end
def D_JobText_7 (n : Nat) : List dE := q_ds (D_JobText_5 n) 5 2 (n + (18 + 1)) 484 (cel_JobText_88 n) 2
theorem D_JobText_7_len {n : Nat} : (D_JobText_7 n).length = 987 := q_ds_len D_JobText_5_len cel_JobText_88_len
def D_JobText_8 (n : Nat) : List dE := D_JobText_7 n ++ dO 4 (F_Job (n + (987 + 1))) :: T_Job (n + (987 + 1))
theorem D_JobText_8_len {n : Nat} : (D_JobText_8 n).length = 1471 := by rw [D_JobText_8, List.length_append, D_JobText_7_len, List.length_cons, T_Job_len]
def X_JobText_5 (n : Nat) : List dV := (X_JobText_4 n).set 4 (4, n + 987)
theorem X_JobText_5_len {n : Nat} : (X_JobText_5 n).length = 12 := by rw [X_JobText_5, List.length_set, X_JobText_4_len]
def X_JobText_6 (n : Nat) : List dV := (X_JobText_5 n).set 5 (4, n + 13)
theorem X_JobText_6_len {n : Nat} : (X_JobText_6 n).length = 12 := by rw [X_JobText_6, List.length_set, X_JobText_5_len]
def D_JobText_9 (n : Nat) : List dE := D_JobText_8 n ++ dO 9 (F_Reader (n + 0) (n + 13) (n + 987) (n + (1471 + 1))) :: T_Reader (n + 0) (n + 13) (n + 987) (n + (1471 + 1))
theorem D_JobText_9_len {n : Nat} : (D_JobText_9 n).length = 1484 := by rw [D_JobText_9, List.length_append, D_JobText_8_len, List.length_cons, T_Reader_len]
def X_JobText_7 (n : Nat) : List dV := (X_JobText_6 n).set 6 (4, n + 1471)
theorem X_JobText_7_len {n : Nat} : (X_JobText_7 n).length = 12 := by rw [X_JobText_7, List.length_set, X_JobText_6_len]
def D_JobText_10 (n : Nat) : List dE := D_JobText_9 n ++ dO 5 (F_Ju (n + 13) (n + (1484 + 1))) :: T_Ju (n + (1484 + 1))
theorem D_JobText_10_len {n : Nat} : (D_JobText_10 n).length = 1486 := by rw [D_JobText_10, List.length_append, D_JobText_9_len, List.length_cons, T_Ju_len]
def X_JobText_8 (n : Nat) : List dV := (X_JobText_7 n).set 7 (4, n + 1484)
theorem X_JobText_8_len {n : Nat} : (X_JobText_8 n).length = 12 := by rw [X_JobText_8, List.length_set, X_JobText_7_len]
def D_JobText_11 (n : Nat) : List dE := D_JobText_10 n ++ [dA 1 200]
theorem D_JobText_11_len {n : Nat} : (D_JobText_11 n).length = 1487 := by rw [D_JobText_11, List.length_append, D_JobText_10_len]; rfl
def X_JobText_9 (n : Nat) : List dV := (X_JobText_8 n).set 8 (4, n + 1486)
theorem X_JobText_9_len {n : Nat} : (X_JobText_9 n).length = 12 := by rw [X_JobText_9, List.length_set, X_JobText_8_len]
def D_JobText_12 (n : Nat) : List dE := D_JobText_11 n ++ [dA 0 240]
theorem D_JobText_12_len {n : Nat} : (D_JobText_12 n).length = 1488 := by rw [D_JobText_12, List.length_append, D_JobText_11_len]; rfl
def X_JobText_10 (n : Nat) : List dV := (X_JobText_9 n).set 10 (4, n + 1487)
theorem X_JobText_10_len {n : Nat} : (X_JobText_10 n).length = 12 := by rw [X_JobText_10, List.length_set, X_JobText_9_len]
def T_JobText (n : Nat) : List dE := D_JobText_12 n
theorem T_JobText_len {n : Nat} : (T_JobText n).length = 1488 := D_JobText_12_len
def F_JobText (n : Nat) : List dV := X_JobText_10 n
theorem d_JobText {cx : zX} : dOk y_JobText prog_1_method_1_code 4 7 154 1488 35237 cx [] 11 (T_JobText) (F_JobText) := by
  intro n t f hf ht
  refine b_enter rfl (by decide) (Nat.le_of_ble_eq_true rfl) (fun p l e s m below meth c ls I hB hl hS => ?_)
  have hl : lv_has ls 4 [(0, .ref (b_a cx t))] := hl
  have hx := I.1
  have hb := I.2.1
  have hB : x_W cx n t f (D_JobText_0 n) 11 (X_JobText_0 n) s.heap := x_W0 hB hf
  refine lv_aload_n hx hb (show decode prog_1_method_1_code 0 = .ok (.aload_n 0, 1) by decide +kernel) rfl (lv_at hl 0 rfl) ?_
  refine b_obj I (idx := 3) (zw (by decide +kernel) rfl) hl.1 (show decode prog_1_method_1_code 1 = .ok (.invokespecial 3, 3) by decide +kernel) (Nat.le_of_ble_eq_true rfl) (Nat.le_of_ble_eq_true rfl) ?_
  refine lv_bipush hx hb (show decode prog_1_method_1_code 4 = .ok (.bipush (6), 2) by decide +kernel) (v := nI 6) (by decide +kernel) ?_
  refine x_newq I hS hB ht D_JobText_0_len (C := RX0) (index := 9) (zw (by decide +kernel) rfl) (by decide) 0 rfl (n + (0 + 1)) 2 6 (by decide +kernel) (by decide +kernel) (by decide) (Nat.le_of_ble_eq_true rfl) (Nat.le_of_ble_eq_true rfl) (show decode prog_1_method_1_code 6 = .ok (.anewarray 9, 3) by decide +kernel) (fun H hB hS => ?_)
  have hB : x_W cx n t f (D_JobText_1 n) 11 (X_JobText_0 n) H := hB
  refine lv_astore_n hx hb (show decode prog_1_method_1_code 9 = .ok (.astore_n 1, 1) by decide +kernel) rfl hl (by decide) (lv' := [(1, .ref (b_a cx (n + 0))), (0, .ref (b_a cx t))]) rfl (fun ls hl => ?_)
  have hl : lv_has ls 4 [(0, .ref (b_a cx t)), (1, .ref (b_a cx (n + 0)))] := lv_sub hl [1, 0] rfl
  refine lv_iconst hx hb (show decode prog_1_method_1_code 10 = .ok (.iconst (0), 1) by decide +kernel) (v := nI 0) (by decide +kernel) ?_
  refine lv_istore_n hx hb (show decode prog_1_method_1_code 11 = .ok (.istore_n 2, 1) by decide +kernel) rfl hl (by decide) (lv' := [(2, .int (nI 0)), (0, .ref (b_a cx t)), (1, .ref (b_a cx (n + 0)))]) rfl (fun ls hl => ?_)
  have hl : lv_has ls 4 [(0, .ref (b_a cx t)), (1, .ref (b_a cx (n + 0))), (2, .int (nI 0))] := lv_sub hl [1, 2, 0] rfl
  refine b_cs (c2 := 1 + 2 * 0) (s2 := 6 + 1202 * 0) rfl rfl (l_JobText_12 (cells := 1) (slots := 6) I ht ⟨(Nat.le_of_ble_eq_true rfl), (Nat.le_of_ble_eq_true rfl)⟩ ⟨(Nat.le_of_ble_eq_true rfl), (Nat.le_of_ble_eq_true rfl)⟩ (fun H locs ls hB hS hl => ?_) 6 0 rfl _ _ ls (by rw [q_ds_0]; exact hB) hS hl)
  have hB : x_W cx n t f (D_JobText_2 n) 11 (X_JobText_0 n) H := hB
  refine x_new I hS hB ht D_JobText_2_len 1 rfl (index := 14) (ty := tyX1) (zw (by decide +kernel) rfl) (zw (by decide +kernel) rfl) (zw (by decide +kernel) rfl) tyX1_ok d1fs (Nat.le_of_ble_eq_true rfl) (Nat.le_of_ble_eq_true rfl) (show decode prog_1_method_1_code 37 = .ok (.new 14, 3) by decide +kernel) (fun H hB hS => ?_)
  refine lv_dup hx hb (show decode prog_1_method_1_code 40 = .ok (.dup, 1) by decide +kernel) rfl ?_
  refine x_call (As := []) (rest := [.ref (b_a cx (n + 13))]) I (d_Fault) hS hB ht D_JobText_2_len (zw (by decide +kernel) rfl) (zw (by decide +kernel) rfl) (zw (by decide +kernel) rfl) (zw (by decide +kernel) rfl) rfl ⟨by decide, by decide, (show (parseMethodDescriptor y_Fault.desc).map (fun d => d.parameters.length) = some 0 by decide +kernel)⟩ ⟨(Nat.le_of_ble_eq_true rfl), (Nat.le_of_ble_eq_true rfl)⟩ hl.1 (Nat.le_of_ble_eq_true rfl) (show decode prog_1_method_1_code 41 = .ok (.invokespecial 16, 3) by decide +kernel) ⟨(Nat.le_of_ble_eq_true rfl), (Nat.le_of_ble_eq_true rfl)⟩ (fun H locs hB hS => ?_)
  have hB : x_W cx n t f (D_JobText_3 n) 11 (X_JobText_0 n) H := hB
  refine lv_astore_n hx hb (show decode prog_1_method_1_code 44 = .ok (.astore_n 2, 1) by decide +kernel) rfl hl (by decide) (lv' := [(2, .ref (b_a cx (n + 13))), (0, .ref (b_a cx t)), (1, .ref (b_a cx (n + 0)))]) rfl (fun ls hl => ?_)
  have hl : lv_has ls 4 [(0, .ref (b_a cx t)), (1, .ref (b_a cx (n + 0))), (2, .ref (b_a cx (n + 13)))] := lv_sub hl [1, 2, 0] rfl
  refine lv_aload_n hx hb (show decode prog_1_method_1_code 45 = .ok (.aload_n 0, 1) by decide +kernel) rfl (lv_at hl 0 rfl) ?_
  refine x_new I hS hB ht D_JobText_3_len 0 rfl (index := 9) (ty := tyX0) (zw (by decide +kernel) rfl) (zw (by decide +kernel) rfl) (zw (by decide +kernel) rfl) tyX0_ok d0fs (Nat.le_of_ble_eq_true rfl) (Nat.le_of_ble_eq_true rfl) (show decode prog_1_method_1_code 46 = .ok (.new 9, 3) by decide +kernel) (fun H hB hS => ?_)
  refine lv_dup hx hb (show decode prog_1_method_1_code 49 = .ok (.dup, 1) by decide +kernel) rfl ?_
  refine lv_sipush hx hb (show decode prog_1_method_1_code 50 = .ok (.sipush (1200), 3) by decide +kernel) (v := nI 1200) (by decide +kernel) ?_
  refine x_call (As := [.int (nI 1200)]) (rest := [.ref (b_a cx (n + 14)), .ref (b_a cx t)]) I (d_Bytes (M := 1200)) hS hB ht D_JobText_3_len (zw (by decide +kernel) rfl) (zw (by decide +kernel) rfl) (zw (by decide +kernel) rfl) (zw (by decide +kernel) rfl) rfl ⟨by decide, by decide, (show (parseMethodDescriptor y_Bytes.desc).map (fun d => d.parameters.length) = some 1 by decide +kernel)⟩ ⟨(Nat.le_of_ble_eq_true rfl), (Nat.le_of_ble_eq_true rfl)⟩ hl.1 (Nat.le_of_ble_eq_true rfl) (show decode prog_1_method_1_code 53 = .ok (.invokespecial 11, 3) by decide +kernel) ⟨(Nat.le_of_ble_eq_true rfl), (Nat.le_of_ble_eq_true rfl)⟩ (fun H locs hB hS => ?_)
  have hB : x_W cx n t f (D_JobText_4 n) 11 (X_JobText_0 n) H := hB
  refine x_put I hS hB ht rfl 0 (by decide) (index := 17) (zw (by decide +kernel) rfl) rfl (ty := .object "JobText$Bytes") (4, n + 14) rfl (by decide +kernel) rfl rfl (by rw [X_JobText_0_len]; decide) (show decode prog_1_method_1_code 56 = .ok (.putfield 17, 3) by decide +kernel) (fun H locs hB hS => ?_)
  have hB : x_W cx n t f (D_JobText_4 n) 11 (X_JobText_1 n) H := hB
  refine lv_aload_n hx hb (show decode prog_1_method_1_code 59 = .ok (.aload_n 0, 1) by decide +kernel) rfl (lv_at hl 0 rfl) ?_
  refine lv_aload_n hx hb (show decode prog_1_method_1_code 60 = .ok (.aload_n 1, 1) by decide +kernel) rfl (lv_at hl 1 rfl) ?_
  refine x_put I hS hB ht rfl 1 (by decide) (index := 21) (zw (by decide +kernel) rfl) rfl (ty := .array (.object "JobText$Bytes")) (4, n + 0) rfl (by decide +kernel) rfl rfl (by rw [X_JobText_1_len]; decide) (show decode prog_1_method_1_code 61 = .ok (.putfield 21, 3) by decide +kernel) (fun H locs hB hS => ?_)
  have hB : x_W cx n t f (D_JobText_4 n) 11 (X_JobText_2 n) H := hB
  refine lv_aload_n hx hb (show decode prog_1_method_1_code 64 = .ok (.aload_n 0, 1) by decide +kernel) rfl (lv_at hl 0 rfl) ?_
  refine x_new I hS hB ht D_JobText_4_len 0 rfl (index := 9) (ty := tyX0) (zw (by decide +kernel) rfl) (zw (by decide +kernel) rfl) (zw (by decide +kernel) rfl) tyX0_ok d0fs (Nat.le_of_ble_eq_true rfl) (Nat.le_of_ble_eq_true rfl) (show decode prog_1_method_1_code 65 = .ok (.new 9, 3) by decide +kernel) (fun H hB hS => ?_)
  refine lv_dup hx hb (show decode prog_1_method_1_code 68 = .ok (.dup, 1) by decide +kernel) rfl ?_
  refine lv_sipush hx hb (show decode prog_1_method_1_code 69 = .ok (.sipush (9728), 3) by decide +kernel) (v := nI 9728) (by decide +kernel) ?_
  refine x_call (As := [.int (nI 9728)]) (rest := [.ref (b_a cx (n + 16)), .ref (b_a cx t)]) I (d_Bytes (M := 9728)) hS hB ht D_JobText_4_len (zw (by decide +kernel) rfl) (zw (by decide +kernel) rfl) (zw (by decide +kernel) rfl) (zw (by decide +kernel) rfl) rfl ⟨by decide, by decide, (show (parseMethodDescriptor y_Bytes.desc).map (fun d => d.parameters.length) = some 1 by decide +kernel)⟩ ⟨(Nat.le_of_ble_eq_true rfl), (Nat.le_of_ble_eq_true rfl)⟩ hl.1 (Nat.le_of_ble_eq_true rfl) (show decode prog_1_method_1_code 72 = .ok (.invokespecial 11, 3) by decide +kernel) ⟨(Nat.le_of_ble_eq_true rfl), (Nat.le_of_ble_eq_true rfl)⟩ (fun H locs hB hS => ?_)
  have hB : x_W cx n t f (D_JobText_5 n) 11 (X_JobText_2 n) H := hB
  refine x_put I hS hB ht rfl 2 (by decide) (index := 25) (zw (by decide +kernel) rfl) rfl (ty := .object "JobText$Bytes") (4, n + 16) rfl (by decide +kernel) rfl rfl (by rw [X_JobText_2_len]; decide) (show decode prog_1_method_1_code 75 = .ok (.putfield 25, 3) by decide +kernel) (fun H locs hB hS => ?_)
  have hB : x_W cx n t f (D_JobText_5 n) 11 (X_JobText_3 n) H := hB
  refine lv_aload_n hx hb (show decode prog_1_method_1_code 78 = .ok (.aload_n 0, 1) by decide +kernel) rfl (lv_at hl 0 rfl) ?_
  refine lv_iconst hx hb (show decode prog_1_method_1_code 79 = .ok (.iconst (2), 1) by decide +kernel) (v := nI 2) (by decide +kernel) ?_
  refine x_newq I hS hB ht D_JobText_5_len (C := RX4) (index := 28) (zw (by decide +kernel) rfl) (by decide) 1 rfl (n + (18 + 1)) 484 2 (by decide +kernel) (by decide +kernel) (by decide) (Nat.le_of_ble_eq_true rfl) (Nat.le_of_ble_eq_true rfl) (show decode prog_1_method_1_code 80 = .ok (.anewarray 28, 3) by decide +kernel) (fun H hB hS => ?_)
  have hB : x_W cx n t f (D_JobText_6 n) 11 (X_JobText_3 n) H := hB
  refine x_put I hS hB ht rfl 3 (by decide) (index := 30) (zw (by decide +kernel) rfl) rfl (ty := .array (.object "JobText$Job")) (4, n + 18) rfl (by decide +kernel) rfl rfl (by rw [X_JobText_3_len]; decide) (show decode prog_1_method_1_code 83 = .ok (.putfield 30, 3) by decide +kernel) (fun H locs hB hS => ?_)
  have hB : x_W cx n t f (D_JobText_6 n) 11 (X_JobText_4 n) H := hB
  refine lv_iconst hx hb (show decode prog_1_method_1_code 86 = .ok (.iconst (0), 1) by decide +kernel) (v := nI 0) (by decide +kernel) ?_
  refine lv_istore_n hx hb (show decode prog_1_method_1_code 87 = .ok (.istore_n 3, 1) by decide +kernel) rfl hl (by decide) (lv' := [(3, .int (nI 0)), (0, .ref (b_a cx t)), (1, .ref (b_a cx (n + 0))), (2, .ref (b_a cx (n + 13)))]) rfl (fun ls hl => ?_)
  have hl : lv_has ls 4 [(0, .ref (b_a cx t)), (1, .ref (b_a cx (n + 0))), (2, .ref (b_a cx (n + 13))), (3, .int (nI 0))] := lv_sub hl [1, 2, 3, 0] rfl
  refine b_cs (c2 := 19 + 484 * 0) (s2 := 18156 + 5496 * 0) rfl rfl (l_JobText_88 (cells := 19) (slots := 18156) I ht ⟨(Nat.le_of_ble_eq_true rfl), (Nat.le_of_ble_eq_true rfl)⟩ ⟨(Nat.le_of_ble_eq_true rfl), (Nat.le_of_ble_eq_true rfl)⟩ (fun H locs ls hB hS hl => ?_) 2 0 rfl _ _ ls (by rw [q_ds_0]; exact hB) hS hl)
  have hB : x_W cx n t f (D_JobText_7 n) 11 (X_JobText_4 n) H := hB
  refine x_new I hS hB ht D_JobText_7_len 4 rfl (index := 28) (ty := tyX4) (zw (by decide +kernel) rfl) (zw (by decide +kernel) rfl) (zw (by decide +kernel) rfl) tyX4_ok d4fs (Nat.le_of_ble_eq_true rfl) (Nat.le_of_ble_eq_true rfl) (show decode prog_1_method_1_code 112 = .ok (.new 28, 3) by decide +kernel) (fun H hB hS => ?_)
  refine lv_dup hx hb (show decode prog_1_method_1_code 115 = .ok (.dup, 1) by decide +kernel) rfl ?_
  refine x_call (As := []) (rest := [.ref (b_a cx (n + 987))]) I (d_Job) hS hB ht D_JobText_7_len (zw (by decide +kernel) rfl) (zw (by decide +kernel) rfl) (zw (by decide +kernel) rfl) (zw (by decide +kernel) rfl) rfl ⟨by decide, by decide, (show (parseMethodDescriptor y_Job.desc).map (fun d => d.parameters.length) = some 0 by decide +kernel)⟩ ⟨(Nat.le_of_ble_eq_true rfl), (Nat.le_of_ble_eq_true rfl)⟩ hl.1 (Nat.le_of_ble_eq_true rfl) (show decode prog_1_method_1_code 116 = .ok (.invokespecial 34, 3) by decide +kernel) ⟨(Nat.le_of_ble_eq_true rfl), (Nat.le_of_ble_eq_true rfl)⟩ (fun H locs hB hS => ?_)
  have hB : x_W cx n t f (D_JobText_8 n) 11 (X_JobText_4 n) H := hB
  refine lv_astore_n hx hb (show decode prog_1_method_1_code 119 = .ok (.astore_n 3, 1) by decide +kernel) rfl hl (by decide) (lv' := [(3, .ref (b_a cx (n + 987))), (0, .ref (b_a cx t)), (1, .ref (b_a cx (n + 0))), (2, .ref (b_a cx (n + 13)))]) rfl (fun ls hl => ?_)
  have hl : lv_has ls 4 [(0, .ref (b_a cx t)), (1, .ref (b_a cx (n + 0))), (2, .ref (b_a cx (n + 13))), (3, .ref (b_a cx (n + 987)))] := lv_sub hl [1, 2, 3, 0] rfl
  refine lv_aload_n hx hb (show decode prog_1_method_1_code 120 = .ok (.aload_n 0, 1) by decide +kernel) rfl (lv_at hl 0 rfl) ?_
  refine lv_aload_n hx hb (show decode prog_1_method_1_code 121 = .ok (.aload_n 3, 1) by decide +kernel) rfl (lv_at hl 3 rfl) ?_
  refine x_put I hS hB ht rfl 4 (by decide) (index := 35) (zw (by decide +kernel) rfl) rfl (ty := .object "JobText$Job") (4, n + 987) rfl (by decide +kernel) rfl rfl (by rw [X_JobText_4_len]; decide) (show decode prog_1_method_1_code 122 = .ok (.putfield 35, 3) by decide +kernel) (fun H locs hB hS => ?_)
  have hB : x_W cx n t f (D_JobText_8 n) 11 (X_JobText_5 n) H := hB
  refine lv_aload_n hx hb (show decode prog_1_method_1_code 125 = .ok (.aload_n 0, 1) by decide +kernel) rfl (lv_at hl 0 rfl) ?_
  refine lv_aload_n hx hb (show decode prog_1_method_1_code 126 = .ok (.aload_n 2, 1) by decide +kernel) rfl (lv_at hl 2 rfl) ?_
  refine x_put I hS hB ht rfl 5 (by decide) (index := 39) (zw (by decide +kernel) rfl) rfl (ty := .object "JobText$Fault") (4, n + 13) rfl (by decide +kernel) rfl rfl (by rw [X_JobText_5_len]; decide) (show decode prog_1_method_1_code 127 = .ok (.putfield 39, 3) by decide +kernel) (fun H locs hB hS => ?_)
  have hB : x_W cx n t f (D_JobText_8 n) 11 (X_JobText_6 n) H := hB
  refine lv_aload_n hx hb (show decode prog_1_method_1_code 130 = .ok (.aload_n 0, 1) by decide +kernel) rfl (lv_at hl 0 rfl) ?_
  refine x_new I hS hB ht D_JobText_8_len 9 rfl (index := 43) (ty := tyX9) (zw (by decide +kernel) rfl) (zw (by decide +kernel) rfl) (zw (by decide +kernel) rfl) tyX9_ok d9fs (Nat.le_of_ble_eq_true rfl) (Nat.le_of_ble_eq_true rfl) (show decode prog_1_method_1_code 131 = .ok (.new 43, 3) by decide +kernel) (fun H hB hS => ?_)
  refine lv_dup hx hb (show decode prog_1_method_1_code 134 = .ok (.dup, 1) by decide +kernel) rfl ?_
  refine lv_aload_n hx hb (show decode prog_1_method_1_code 135 = .ok (.aload_n 1, 1) by decide +kernel) rfl (lv_at hl 1 rfl) ?_
  refine lv_aload_n hx hb (show decode prog_1_method_1_code 136 = .ok (.aload_n 2, 1) by decide +kernel) rfl (lv_at hl 2 rfl) ?_
  refine lv_aload_n hx hb (show decode prog_1_method_1_code 137 = .ok (.aload_n 3, 1) by decide +kernel) rfl (lv_at hl 3 rfl) ?_
  refine x_call (As := [.ref (b_a cx (n + 0)), .ref (b_a cx (n + 13)), .ref (b_a cx (n + 987))]) (rest := [.ref (b_a cx (n + 1471)), .ref (b_a cx t)]) I (d_Reader) hS hB ht D_JobText_8_len (zw (by decide +kernel) rfl) (zw (by decide +kernel) rfl) (zw (by decide +kernel) rfl) (zw (by decide +kernel) rfl) rfl ⟨by decide, by decide, (show (parseMethodDescriptor y_Reader.desc).map (fun d => d.parameters.length) = some 3 by decide +kernel)⟩ ⟨(Nat.le_of_ble_eq_true rfl), (Nat.le_of_ble_eq_true rfl)⟩ hl.1 (Nat.le_of_ble_eq_true rfl) (show decode prog_1_method_1_code 138 = .ok (.invokespecial 45, 3) by decide +kernel) ⟨(Nat.le_of_ble_eq_true rfl), (Nat.le_of_ble_eq_true rfl)⟩ (fun H locs hB hS => ?_)
  have hB : x_W cx n t f (D_JobText_9 n) 11 (X_JobText_6 n) H := hB
  refine x_put I hS hB ht rfl 6 (by decide) (index := 48) (zw (by decide +kernel) rfl) rfl (ty := .object "JobText$Reader") (4, n + 1471) rfl (by decide +kernel) rfl rfl (by rw [X_JobText_6_len]; decide) (show decode prog_1_method_1_code 141 = .ok (.putfield 48, 3) by decide +kernel) (fun H locs hB hS => ?_)
  have hB : x_W cx n t f (D_JobText_9 n) 11 (X_JobText_7 n) H := hB
  refine lv_aload_n hx hb (show decode prog_1_method_1_code 144 = .ok (.aload_n 0, 1) by decide +kernel) rfl (lv_at hl 0 rfl) ?_
  refine x_new I hS hB ht D_JobText_9_len 5 rfl (index := 52) (ty := tyX5) (zw (by decide +kernel) rfl) (zw (by decide +kernel) rfl) (zw (by decide +kernel) rfl) tyX5_ok d5fs (Nat.le_of_ble_eq_true rfl) (Nat.le_of_ble_eq_true rfl) (show decode prog_1_method_1_code 145 = .ok (.new 52, 3) by decide +kernel) (fun H hB hS => ?_)
  refine lv_dup hx hb (show decode prog_1_method_1_code 148 = .ok (.dup, 1) by decide +kernel) rfl ?_
  refine lv_aload_n hx hb (show decode prog_1_method_1_code 149 = .ok (.aload_n 2, 1) by decide +kernel) rfl (lv_at hl 2 rfl) ?_
  refine x_call (As := [.ref (b_a cx (n + 13))]) (rest := [.ref (b_a cx (n + 1484)), .ref (b_a cx t)]) I (d_Judge) hS hB ht D_JobText_9_len (zw (by decide +kernel) rfl) (zw (by decide +kernel) rfl) (zw (by decide +kernel) rfl) (zw (by decide +kernel) rfl) rfl ⟨by decide, by decide, (show (parseMethodDescriptor y_Judge.desc).map (fun d => d.parameters.length) = some 1 by decide +kernel)⟩ ⟨(Nat.le_of_ble_eq_true rfl), (Nat.le_of_ble_eq_true rfl)⟩ hl.1 (Nat.le_of_ble_eq_true rfl) (show decode prog_1_method_1_code 150 = .ok (.invokespecial 54, 3) by decide +kernel) ⟨(Nat.le_of_ble_eq_true rfl), (Nat.le_of_ble_eq_true rfl)⟩ (fun H locs hB hS => ?_)
  have hB : x_W cx n t f (D_JobText_10 n) 11 (X_JobText_7 n) H := hB
  refine x_put I hS hB ht rfl 7 (by decide) (index := 57) (zw (by decide +kernel) rfl) rfl (ty := .object "JobText$Judge") (4, n + 1484) rfl (by decide +kernel) rfl rfl (by rw [X_JobText_7_len]; decide) (show decode prog_1_method_1_code 153 = .ok (.putfield 57, 3) by decide +kernel) (fun H locs hB hS => ?_)
  have hB : x_W cx n t f (D_JobText_10 n) 11 (X_JobText_8 n) H := hB
  refine lv_aload_n hx hb (show decode prog_1_method_1_code 156 = .ok (.aload_n 0, 1) by decide +kernel) rfl (lv_at hl 0 rfl) ?_
  refine lv_sipush hx hb (show decode prog_1_method_1_code 157 = .ok (.sipush (200), 3) by decide +kernel) (v := nI 200) (by decide +kernel) ?_
  refine x_newa I hS hB ht D_JobText_10_len (atype := .long) (zw (by decide +kernel) rfl) 1 rfl (fun C h => by cases h) 200 (fun cA => rfl) (by decide +kernel) (by decide +kernel) (by decide) (Nat.le_of_ble_eq_true rfl) (Nat.le_of_ble_eq_true rfl) (show decode prog_1_method_1_code 160 = .ok (.newarray .long, 2) by decide +kernel) (fun H hB hS => ?_)
  have hB : x_W cx n t f (D_JobText_11 n) 11 (X_JobText_8 n) H := hB
  refine x_put I hS hB ht rfl 8 (by decide) (index := 61) (zw (by decide +kernel) rfl) rfl (ty := .array (.long)) (4, n + 1486) rfl (by decide +kernel) rfl rfl (by rw [X_JobText_8_len]; decide) (show decode prog_1_method_1_code 162 = .ok (.putfield 61, 3) by decide +kernel) (fun H locs hB hS => ?_)
  have hB : x_W cx n t f (D_JobText_11 n) 11 (X_JobText_9 n) H := hB
  refine lv_aload_n hx hb (show decode prog_1_method_1_code 165 = .ok (.aload_n 0, 1) by decide +kernel) rfl (lv_at hl 0 rfl) ?_
  refine lv_sipush hx hb (show decode prog_1_method_1_code 166 = .ok (.sipush (240), 3) by decide +kernel) (v := nI 240) (by decide +kernel) ?_
  refine x_newa I hS hB ht D_JobText_11_len (atype := .int) (zw (by decide +kernel) rfl) 0 rfl (fun C h => by cases h) 240 (fun cA => rfl) (by decide +kernel) (by decide +kernel) (by decide) (Nat.le_of_ble_eq_true rfl) (Nat.le_of_ble_eq_true rfl) (show decode prog_1_method_1_code 169 = .ok (.newarray .int, 2) by decide +kernel) (fun H hB hS => ?_)
  have hB : x_W cx n t f (D_JobText_12 n) 11 (X_JobText_9 n) H := hB
  refine x_put I hS hB ht rfl 10 (by decide) (index := 65) (zw (by decide +kernel) rfl) rfl (ty := .array (.int)) (4, n + 1487) rfl (by decide +kernel) rfl rfl (by rw [X_JobText_9_len]; decide) (show decode prog_1_method_1_code 171 = .ok (.putfield 65, 3) by decide +kernel) (fun H locs hB hS => ?_)
  have hB : x_W cx n t f (D_JobText_12 n) 11 (X_JobText_10 n) H := hB
  exact x_ret I (T := T_JobText) (F := F_JobText) hB rfl rfl hS (Nat.le_of_ble_eq_true rfl) (Nat.le_of_ble_eq_true rfl) (show decode prog_1_method_1_code 174 = .ok (.return_, 1) by decide +kernel)
