/-! ===== constructors: Layout (printed by wip/p1/gen/p64.py) ===== -/
def y_Layout : MethodName := ⟨RX6, "<init>", "()V"⟩
def D_Layout_0 (n : Nat) : List dE := []
theorem D_Layout_0_len {n : Nat} : (D_Layout_0 n).length = 0 := rfl
def X_Layout_0 (n : Nat) : List dV := d_df 6
theorem X_Layout_0_len {n : Nat} : (X_Layout_0 n).length = 15 := by
  show (d_df 6).length = 15
  decide +kernel
def D_Layout_1 (n : Nat) : List dE := D_Layout_0 n ++ [dA 0 40]
theorem D_Layout_1_len {n : Nat} : (D_Layout_1 n).length = 1 := by rw [D_Layout_1, List.length_append, D_Layout_0_len]; rfl
def X_Layout_1 (n : Nat) : List dV := (X_Layout_0 n).set 0 (4, n + 0)
theorem X_Layout_1_len {n : Nat} : (X_Layout_1 n).length = 15 := by rw [X_Layout_1, List.length_set, X_Layout_0_len]
def D_Layout_2 (n : Nat) : List dE := D_Layout_1 n ++ [dA 0 40]
theorem D_Layout_2_len {n : Nat} : (D_Layout_2 n).length = 2 := by rw [D_Layout_2, List.length_append, D_Layout_1_len]; rfl
def X_Layout_2 (n : Nat) : List dV := (X_Layout_1 n).set 1 (4, n + 1)
theorem X_Layout_2_len {n : Nat} : (X_Layout_2 n).length = 15 := by rw [X_Layout_2, List.length_set, X_Layout_1_len]
def D_Layout_3 (n : Nat) : List dE := D_Layout_2 n ++ [dA 0 40]
theorem D_Layout_3_len {n : Nat} : (D_Layout_3 n).length = 3 := by rw [D_Layout_3, List.length_append, D_Layout_2_len]; rfl
def X_Layout_3 (n : Nat) : List dV := (X_Layout_2 n).set 2 (4, n + 2)
theorem X_Layout_3_len {n : Nat} : (X_Layout_3 n).length = 15 := by rw [X_Layout_3, List.length_set, X_Layout_2_len]
def D_Layout_4 (n : Nat) : List dE := D_Layout_3 n ++ [dA 1 40]
theorem D_Layout_4_len {n : Nat} : (D_Layout_4 n).length = 4 := by rw [D_Layout_4, List.length_append, D_Layout_3_len]; rfl
def X_Layout_4 (n : Nat) : List dV := (X_Layout_3 n).set 3 (4, n + 3)
theorem X_Layout_4_len {n : Nat} : (X_Layout_4 n).length = 15 := by rw [X_Layout_4, List.length_set, X_Layout_3_len]
def D_Layout_5 (n : Nat) : List dE := D_Layout_4 n ++ [dQ 9 40 (n + (4 + 2)) 2 0]
theorem D_Layout_5_len {n : Nat} : (D_Layout_5 n).length = 5 := by rw [D_Layout_5, List.length_append, D_Layout_4_len]; rfl
def X_Layout_5 (n : Nat) : List dV := (X_Layout_4 n).set 4 (4, n + 4)
theorem X_Layout_5_len {n : Nat} : (X_Layout_5 n).length = 15 := by rw [X_Layout_5, List.length_set, X_Layout_4_len]
def D_Layout_6 (n : Nat) : List dE := D_Layout_5 n ++ [dQ 9 40 (n + (4 + 2) + 1) 2 0]
theorem D_Layout_6_len {n : Nat} : (D_Layout_6 n).length = 6 := by rw [D_Layout_6, List.length_append, D_Layout_5_len]; rfl
def X_Layout_6 (n : Nat) : List dV := (X_Layout_5 n).set 5 (4, n + 5)
theorem X_Layout_6_len {n : Nat} : (X_Layout_6 n).length = 15 := by rw [X_Layout_6, List.length_set, X_Layout_5_len]
def cel_Layout (_ : Nat) : List dE := [dO 2 (F_Fl 0), dO 2 (F_Fl 0)]
theorem cel_Layout_len : ∀ i : Nat, (cel_Layout i).length = 2 := fun _ => rfl
theorem X_Layout_main {n : Nat} : (X_Layout_6 n)[4]? = some (4, n + 4) := by rfl
theorem X_Layout_side {n : Nat} : (X_Layout_6 n)[5]? = some (4, n + 5) := by rfl
section
variable {p : Program} {l : Launch} {e : Env} {R : Room} {s : State} {m : MethodId} {args : Array Value} {below : List Frame} {meth : Method} {c : Code} {cells slots : Nat} {Q : State → Prop} {cx : zX} {n t : Nat} {f : Nat → va_E}
theorem l_Layout (I : b_In cx prog_8_method_1_code 2 RX6 p s m args meth c) (ht : t < n) (hR : 2 ≤ R.frames ∧ 33 ≤ R.locals) (hc : cells + 2 * 40 ≤ R.cells ∧ slots + 6 * 40 ≤ R.slots)
    (kk : ∀ (H : Heap) (locs : List Loc) (ls : Array Slot), x_W cx n t f (q2_ds (D_Layout_4 n) 9 40 (n + (4 + 2)) cel_Layout 40 40 40 []) 6 (X_Layout_6 n) H → va_S (z_A cx) s.heap H locs → lv_has ls 2 [(0, .ref (b_a cx t)), (1, .int (nI 40))] → W p l e R s m args below meth c H locs (cells + 2 * 40) (slots + 6 * 40) Q (F0 m 94 ls [])) :
    ∀ (i j : Nat), j + i = 40 → ∀ (H : Heap) (locs : List Loc) (ls : Array Slot), x_W cx n t f (q2_ds (D_Layout_4 n) 9 40 (n + (4 + 2)) cel_Layout j j j []) 6 (X_Layout_6 n) H → va_S (z_A cx) s.heap H locs → lv_has ls 2 [(0, .ref (b_a cx t)), (1, .int (nI j))] → W p l e R s m args below meth c H locs (cells + 2 * j) (slots + 6 * j) Q (F0 m 56 ls []) := by
  have hx := I.1
  have hb := I.2.1
  intro i
  induction i with
  | zero =>
    intro j hj H locs ls hB hS hl
    have ej : j = 40 := by omega
    subst ej
    refine lv_iload_n hx hb (show decode prog_8_method_1_code 56 = .ok (.iload_n 1, 1) by decide +kernel) rfl (lv_at hl 1 rfl) ?_
    refine lv_bipush hx hb (show decode prog_8_method_1_code 57 = .ok (.bipush (40), 2) by decide +kernel) (v := nI 40) (by decide +kernel) ?_
    refine lv_icmp_ge hx hb (show decode prog_8_method_1_code 59 = .ok (.if_icmp .ge 35, 3) by decide +kernel) (tgt := 94) rfl (fun _ => ?_) (fun h => absurd (nI_le (Nat.le_refl _) (by decide)) h)
    exact kk H locs ls hB hS hl
  | succ i ih =>
    intro j hj H locs ls hB hS hl
    refine lv_iload_n hx hb (show decode prog_8_method_1_code 56 = .ok (.iload_n 1, 1) by decide +kernel) rfl (lv_at hl 1 rfl) ?_
    refine lv_bipush hx hb (show decode prog_8_method_1_code 57 = .ok (.bipush (40), 2) by decide +kernel) (v := nI 40) (by decide +kernel) ?_
    refine lv_icmp_ge hx hb (show decode prog_8_method_1_code 59 = .ok (.if_icmp .ge 35, 3) by decide +kernel) (tgt := 94) rfl (fun h => absurd h (nI_ge (b := 40) (by omega) (by decide))) (fun _ => ?_)
    refine lv_aload_n hx hb (show decode prog_8_method_1_code 62 = .ok (.aload_n 0, 1) by decide +kernel) rfl (lv_at hl 0 rfl) ?_
    refine x_get I hB ht rfl 4 (by decide) (index := 27) (zw (by decide +kernel) rfl) X_Layout_main rfl (show decode prog_8_method_1_code 63 = .ok (.getfield 27, 3) by decide +kernel) ?_
    refine lv_iload_n hx hb (show decode prog_8_method_1_code 66 = .ok (.iload_n 1, 1) by decide +kernel) rfl (lv_at hl 1 rfl) ?_
    refine x_new I hS hB ht (q2_len D_Layout_4_len cel_Layout_len) 2 rfl (index := 25) (ty := tyX2) (zw (by decide +kernel) rfl) (zw (by decide +kernel) rfl) (zw (by decide +kernel) rfl) tyX2_ok d2fs (by omega) (by show slots + 6 * j + 3 ≤ _; omega) (show decode prog_8_method_1_code 67 = .ok (.new 25, 3) by decide +kernel) (fun H hB hS => ?_)
    refine lv_dup hx hb (show decode prog_8_method_1_code 70 = .ok (.dup, 1) by decide +kernel) rfl ?_
    refine x_call (As := []) (rest := [.ref (b_a cx (n + (4 + 2 + 2 * j + 0))), .int (nI j), .ref (b_a cx (n + 4))]) I d_Flow hS hB ht (q2_len D_Layout_4_len cel_Layout_len) (zw (by decide +kernel) rfl) (zw (by decide +kernel) rfl) (zw (by decide +kernel) rfl) (zw (by decide +kernel) rfl) rfl ⟨by decide, by decide, by decide +kernel⟩ ⟨hR.1, hR.2⟩ hl.1 (Nat.le_of_ble_eq_true rfl) (show decode prog_8_method_1_code 71 = .ok (.invokespecial 34, 3) by decide +kernel) ⟨by omega, by show slots + 6 * j + 3 + 0 ≤ _; omega⟩ (fun H locs hB hS => ?_)
    have hB : x_W cx n t f (q2_ds (D_Layout_4 n) 9 40 (n + (4 + 2)) cel_Layout (j) j j [dO 2 (F_Fl 0)]) 6 (X_Layout_6 n) H := by
      have e : q2_ds (D_Layout_4 n) 9 40 (n + (4 + 2)) cel_Layout (j) j j [] ++ [dO 2 (F_Fl 0)] = q2_ds (D_Layout_4 n) 9 40 (n + (4 + 2)) cel_Layout (j) j j [dO 2 (F_Fl 0)] := q2_app
      rw [← e]
      exact hB
    refine x_aast I hS hB ht (i0 := 4) (iv := 4 + 2 + 2 * j + 0) (q2_at0 D_Layout_4_len) rfl ((q2_z (i := 0) D_Layout_4_len cel_Layout_len).trans rfl) rfl (by omega) (by decide) (by omega) (show decode prog_8_method_1_code 74 = .ok (.aastore, 1) by decide +kernel) (fun H locs hB hS => ?_)
    rw [q2_set0 D_Layout_4_len] at hB
    refine lv_aload_n hx hb (show decode prog_8_method_1_code 75 = .ok (.aload_n 0, 1) by decide +kernel) rfl (lv_at hl 0 rfl) ?_
    refine x_get I hB ht rfl 5 (by decide) (index := 31) (zw (by decide +kernel) rfl) X_Layout_side rfl (show decode prog_8_method_1_code 76 = .ok (.getfield 31, 3) by decide +kernel) ?_
    refine lv_iload_n hx hb (show decode prog_8_method_1_code 79 = .ok (.iload_n 1, 1) by decide +kernel) rfl (lv_at hl 1 rfl) ?_
    refine x_new I hS hB ht (q2_len D_Layout_4_len cel_Layout_len) 2 rfl (index := 25) (ty := tyX2) (zw (by decide +kernel) rfl) (zw (by decide +kernel) rfl) (zw (by decide +kernel) rfl) tyX2_ok d2fs (by omega) (by show slots + 6 * j + 3 + 0 + 3 ≤ _; omega) (show decode prog_8_method_1_code 80 = .ok (.new 25, 3) by decide +kernel) (fun H hB hS => ?_)
    refine lv_dup hx hb (show decode prog_8_method_1_code 83 = .ok (.dup, 1) by decide +kernel) rfl ?_
    refine x_call (As := []) (rest := [.ref (b_a cx (n + (4 + 2 + 2 * j + 1))), .int (nI j), .ref (b_a cx (n + 5))]) I d_Flow hS hB ht (q2_len D_Layout_4_len cel_Layout_len) (zw (by decide +kernel) rfl) (zw (by decide +kernel) rfl) (zw (by decide +kernel) rfl) (zw (by decide +kernel) rfl) rfl ⟨by decide, by decide, by decide +kernel⟩ ⟨hR.1, hR.2⟩ hl.1 (Nat.le_of_ble_eq_true rfl) (show decode prog_8_method_1_code 84 = .ok (.invokespecial 34, 3) by decide +kernel) ⟨by omega, by show slots + 6 * j + 3 + 0 + 3 + 0 ≤ _; omega⟩ (fun H locs hB hS => ?_)
    have hB : x_W cx n t f (q2_ds (D_Layout_4 n) 9 40 (n + (4 + 2)) cel_Layout (j + 1) j j [dO 2 (F_Fl 0), dO 2 (F_Fl 0)]) 6 (X_Layout_6 n) H := by
      have e : q2_ds (D_Layout_4 n) 9 40 (n + (4 + 2)) cel_Layout (j + 1) j j [dO 2 (F_Fl 0)] ++ [dO 2 (F_Fl 0)] = q2_ds (D_Layout_4 n) 9 40 (n + (4 + 2)) cel_Layout (j + 1) j j [dO 2 (F_Fl 0), dO 2 (F_Fl 0)] := q2_app
      rw [← e]
      exact hB
    refine x_aast I hS hB ht (i0 := 4 + 1) (iv := 4 + 2 + 2 * j + 1) (q2_at1 D_Layout_4_len) rfl ((q2_z (i := 1) D_Layout_4_len cel_Layout_len).trans rfl) rfl (by omega) (by decide) (by omega) (show decode prog_8_method_1_code 87 = .ok (.aastore, 1) by decide +kernel) (fun H locs hB hS => ?_)
    rw [q2_set1 D_Layout_4_len] at hB
    rw [q2_next (zs := [dO 2 (F_Fl 0), dO 2 (F_Fl 0)]) (cel := cel_Layout) rfl] at hB
    refine lv_iinc hx hb (show decode prog_8_method_1_code 88 = .ok (.iinc 1 1, 3) by decide +kernel) hl (k := 1) rfl (v := nI (j + 1)) (nI_succ j).symm (by decide) (lv' := [(1, .int (nI (j + 1))), (0, .ref (b_a cx t))]) rfl (fun ls hl => ?_)
    refine lv_goto hx hb (show decode prog_8_method_1_code 91 = .ok (.goto (-35), 3) by decide +kernel) (tgt := 56) rfl ?_
    exact b_cs (show cells + 2 * j + 1 + 0 + 1 + 0 = cells + 2 * (j + 1) by omega) (show slots + 6 * j + 3 + 0 + 3 + 0 = slots + 6 * (j + 1) by omega) (ih (j + 1) (by omega) H locs ls hB hS (lv_sub hl [1, 0] rfl))
end
def D_Layout_7 (n : Nat) : List dE := q2_ds (D_Layout_4 n) 9 40 (n + (4 + 2)) cel_Layout 40 40 40 []
theorem D_Layout_7_len {n : Nat} : (D_Layout_7 n).length = 86 := q2_len D_Layout_4_len cel_Layout_len
def D_Layout_8 (n : Nat) : List dE := D_Layout_7 n ++ dO 2 (F_Fl (n + (86 + 1))) :: T_Nil (n + (86 + 1))
theorem D_Layout_8_len {n : Nat} : (D_Layout_8 n).length = 87 := by rw [D_Layout_8, List.length_append, D_Layout_7_len, List.length_cons, T_Nil_len]
def X_Layout_7 (n : Nat) : List dV := (X_Layout_6 n).set 6 (4, n + 86)
theorem X_Layout_7_len {n : Nat} : (X_Layout_7 n).length = 15 := by rw [X_Layout_7, List.length_set, X_Layout_6_len]
def D_Layout_9 (n : Nat) : List dE := D_Layout_8 n ++ [dA 0 40]
theorem D_Layout_9_len {n : Nat} : (D_Layout_9 n).length = 88 := by rw [D_Layout_9, List.length_append, D_Layout_8_len]; rfl
def X_Layout_8 (n : Nat) : List dV := (X_Layout_7 n).set 7 (4, n + 87)
theorem X_Layout_8_len {n : Nat} : (X_Layout_8 n).length = 15 := by rw [X_Layout_8, List.length_set, X_Layout_7_len]
def D_Layout_10 (n : Nat) : List dE := D_Layout_9 n ++ [dA 0 40]
theorem D_Layout_10_len {n : Nat} : (D_Layout_10 n).length = 89 := by rw [D_Layout_10, List.length_append, D_Layout_9_len]; rfl
def X_Layout_9 (n : Nat) : List dV := (X_Layout_8 n).set 8 (4, n + 88)
theorem X_Layout_9_len {n : Nat} : (X_Layout_9 n).length = 15 := by rw [X_Layout_9, List.length_set, X_Layout_8_len]
def D_Layout_11 (n : Nat) : List dE := D_Layout_10 n ++ [dA 3 40]
theorem D_Layout_11_len {n : Nat} : (D_Layout_11 n).length = 90 := by rw [D_Layout_11, List.length_append, D_Layout_10_len]; rfl
def X_Layout_10 (n : Nat) : List dV := (X_Layout_9 n).set 9 (4, n + 89)
theorem X_Layout_10_len {n : Nat} : (X_Layout_10 n).length = 15 := by rw [X_Layout_10, List.length_set, X_Layout_9_len]
def D_Layout_12 (n : Nat) : List dE := D_Layout_11 n ++ [dA 0 40]
theorem D_Layout_12_len {n : Nat} : (D_Layout_12 n).length = 91 := by rw [D_Layout_12, List.length_append, D_Layout_11_len]; rfl
def X_Layout_11 (n : Nat) : List dV := (X_Layout_10 n).set 10 (4, n + 90)
theorem X_Layout_11_len {n : Nat} : (X_Layout_11 n).length = 15 := by rw [X_Layout_11, List.length_set, X_Layout_10_len]
def T_Layout (n : Nat) : List dE := D_Layout_12 n
theorem T_Layout_len {n : Nat} : (T_Layout n).length = 91 := D_Layout_12_len
def F_Layout (n : Nat) : List dV := X_Layout_11 n
theorem d_Layout {cx : zX} : dOk y_Layout prog_8_method_1_code 2 2 33 91 643 cx [] 6 (T_Layout) (F_Layout) := by
  intro n t f hf ht
  refine b_enter rfl (by decide) (Nat.le_of_ble_eq_true rfl) (fun p l e s m below meth c ls I hB hl hS => ?_)
  have hl : lv_has ls 2 [(0, .ref (b_a cx t))] := hl
  have hx := I.1
  have hb := I.2.1
  have hB : x_W cx n t f (D_Layout_0 n) 6 (X_Layout_0 n) s.heap := x_W0 hB hf
  refine lv_aload_n hx hb (show decode prog_8_method_1_code 0 = .ok (.aload_n 0, 1) by decide +kernel) rfl (lv_at hl 0 rfl) ?_
  refine b_obj I (idx := 3) (zw (by decide +kernel) rfl) hl.1 (show decode prog_8_method_1_code 1 = .ok (.invokespecial 3, 3) by decide +kernel) (Nat.le_of_ble_eq_true rfl) (Nat.le_of_ble_eq_true rfl) ?_
  refine lv_aload_n hx hb (show decode prog_8_method_1_code 4 = .ok (.aload_n 0, 1) by decide +kernel) rfl (lv_at hl 0 rfl) ?_
  refine lv_bipush hx hb (show decode prog_8_method_1_code 5 = .ok (.bipush (40), 2) by decide +kernel) (v := nI 40) (by decide +kernel) ?_
  refine x_newa I hS hB ht D_Layout_0_len (atype := .int) (zw (by decide +kernel) rfl) 0 rfl (fun C h => by cases h) 40 (fun cA => rfl) (by decide +kernel) (by decide +kernel) (by decide) (Nat.le_of_ble_eq_true rfl) (Nat.le_of_ble_eq_true rfl) (show decode prog_8_method_1_code 7 = .ok (.newarray .int, 2) by decide +kernel) (fun H hB hS => ?_)
  have hB : x_W cx n t f (D_Layout_1 n) 6 (X_Layout_0 n) H := hB
  refine x_put I hS hB ht rfl 0 (by decide) (index := 9) (zw (by decide +kernel) rfl) rfl (ty := .array (.int)) (4, n + 0) rfl (by decide +kernel) rfl rfl (by rw [X_Layout_0_len]; decide) (show decode prog_8_method_1_code 9 = .ok (.putfield 9, 3) by decide +kernel) (fun H locs hB hS => ?_)
  have hB : x_W cx n t f (D_Layout_1 n) 6 (X_Layout_1 n) H := hB
  refine lv_aload_n hx hb (show decode prog_8_method_1_code 12 = .ok (.aload_n 0, 1) by decide +kernel) rfl (lv_at hl 0 rfl) ?_
  refine lv_bipush hx hb (show decode prog_8_method_1_code 13 = .ok (.bipush (40), 2) by decide +kernel) (v := nI 40) (by decide +kernel) ?_
  refine x_newa I hS hB ht D_Layout_1_len (atype := .int) (zw (by decide +kernel) rfl) 0 rfl (fun C h => by cases h) 40 (fun cA => rfl) (by decide +kernel) (by decide +kernel) (by decide) (Nat.le_of_ble_eq_true rfl) (Nat.le_of_ble_eq_true rfl) (show decode prog_8_method_1_code 15 = .ok (.newarray .int, 2) by decide +kernel) (fun H hB hS => ?_)
  have hB : x_W cx n t f (D_Layout_2 n) 6 (X_Layout_1 n) H := hB
  refine x_put I hS hB ht rfl 1 (by decide) (index := 15) (zw (by decide +kernel) rfl) rfl (ty := .array (.int)) (4, n + 1) rfl (by decide +kernel) rfl rfl (by rw [X_Layout_1_len]; decide) (show decode prog_8_method_1_code 17 = .ok (.putfield 15, 3) by decide +kernel) (fun H locs hB hS => ?_)
  have hB : x_W cx n t f (D_Layout_2 n) 6 (X_Layout_2 n) H := hB
  refine lv_aload_n hx hb (show decode prog_8_method_1_code 20 = .ok (.aload_n 0, 1) by decide +kernel) rfl (lv_at hl 0 rfl) ?_
  refine lv_bipush hx hb (show decode prog_8_method_1_code 21 = .ok (.bipush (40), 2) by decide +kernel) (v := nI 40) (by decide +kernel) ?_
  refine x_newa I hS hB ht D_Layout_2_len (atype := .int) (zw (by decide +kernel) rfl) 0 rfl (fun C h => by cases h) 40 (fun cA => rfl) (by decide +kernel) (by decide +kernel) (by decide) (Nat.le_of_ble_eq_true rfl) (Nat.le_of_ble_eq_true rfl) (show decode prog_8_method_1_code 23 = .ok (.newarray .int, 2) by decide +kernel) (fun H hB hS => ?_)
  have hB : x_W cx n t f (D_Layout_3 n) 6 (X_Layout_2 n) H := hB
  refine x_put I hS hB ht rfl 2 (by decide) (index := 18) (zw (by decide +kernel) rfl) rfl (ty := .array (.int)) (4, n + 2) rfl (by decide +kernel) rfl rfl (by rw [X_Layout_2_len]; decide) (show decode prog_8_method_1_code 25 = .ok (.putfield 18, 3) by decide +kernel) (fun H locs hB hS => ?_)
  have hB : x_W cx n t f (D_Layout_3 n) 6 (X_Layout_3 n) H := hB
  refine lv_aload_n hx hb (show decode prog_8_method_1_code 28 = .ok (.aload_n 0, 1) by decide +kernel) rfl (lv_at hl 0 rfl) ?_
  refine lv_bipush hx hb (show decode prog_8_method_1_code 29 = .ok (.bipush (40), 2) by decide +kernel) (v := nI 40) (by decide +kernel) ?_
  refine x_newa I hS hB ht D_Layout_3_len (atype := .long) (zw (by decide +kernel) rfl) 1 rfl (fun C h => by cases h) 40 (fun cA => rfl) (by decide +kernel) (by decide +kernel) (by decide) (Nat.le_of_ble_eq_true rfl) (Nat.le_of_ble_eq_true rfl) (show decode prog_8_method_1_code 31 = .ok (.newarray .long, 2) by decide +kernel) (fun H hB hS => ?_)
  have hB : x_W cx n t f (D_Layout_4 n) 6 (X_Layout_3 n) H := hB
  refine x_put I hS hB ht rfl 3 (by decide) (index := 21) (zw (by decide +kernel) rfl) rfl (ty := .array (.long)) (4, n + 3) rfl (by decide +kernel) rfl rfl (by rw [X_Layout_3_len]; decide) (show decode prog_8_method_1_code 33 = .ok (.putfield 21, 3) by decide +kernel) (fun H locs hB hS => ?_)
  have hB : x_W cx n t f (D_Layout_4 n) 6 (X_Layout_4 n) H := hB
  refine lv_aload_n hx hb (show decode prog_8_method_1_code 36 = .ok (.aload_n 0, 1) by decide +kernel) rfl (lv_at hl 0 rfl) ?_
  refine lv_bipush hx hb (show decode prog_8_method_1_code 37 = .ok (.bipush (40), 2) by decide +kernel) (v := nI 40) (by decide +kernel) ?_
  refine x_newq I hS hB ht D_Layout_4_len (C := RX2) (index := 25) (zw (by decide +kernel) rfl) (by decide) 5 rfl (n + (4 + 2)) 2 40 (by decide +kernel) (by decide +kernel) (by decide) (Nat.le_of_ble_eq_true rfl) (Nat.le_of_ble_eq_true rfl) (show decode prog_8_method_1_code 39 = .ok (.anewarray 25, 3) by decide +kernel) (fun H hB hS => ?_)
  have hB : x_W cx n t f (D_Layout_5 n) 6 (X_Layout_4 n) H := hB
  refine x_put I hS hB ht rfl 4 (by decide) (index := 27) (zw (by decide +kernel) rfl) rfl (ty := .array (.object "JobText$Flow")) (4, n + 4) rfl (by decide +kernel) rfl rfl (by rw [X_Layout_4_len]; decide) (show decode prog_8_method_1_code 42 = .ok (.putfield 27, 3) by decide +kernel) (fun H locs hB hS => ?_)
  have hB : x_W cx n t f (D_Layout_5 n) 6 (X_Layout_5 n) H := hB
  refine lv_aload_n hx hb (show decode prog_8_method_1_code 45 = .ok (.aload_n 0, 1) by decide +kernel) rfl (lv_at hl 0 rfl) ?_
  refine lv_bipush hx hb (show decode prog_8_method_1_code 46 = .ok (.bipush (40), 2) by decide +kernel) (v := nI 40) (by decide +kernel) ?_
  refine x_newq I hS hB ht D_Layout_5_len (C := RX2) (index := 25) (zw (by decide +kernel) rfl) (by decide) 5 rfl (n + (4 + 2) + 1) 2 40 (by decide +kernel) (by decide +kernel) (by decide) (Nat.le_of_ble_eq_true rfl) (Nat.le_of_ble_eq_true rfl) (show decode prog_8_method_1_code 48 = .ok (.anewarray 25, 3) by decide +kernel) (fun H hB hS => ?_)
  have hB : x_W cx n t f (D_Layout_6 n) 6 (X_Layout_5 n) H := hB
  refine x_put I hS hB ht rfl 5 (by decide) (index := 31) (zw (by decide +kernel) rfl) rfl (ty := .array (.object "JobText$Flow")) (4, n + 5) rfl (by decide +kernel) rfl rfl (by rw [X_Layout_5_len]; decide) (show decode prog_8_method_1_code 51 = .ok (.putfield 31, 3) by decide +kernel) (fun H locs hB hS => ?_)
  have hB : x_W cx n t f (D_Layout_6 n) 6 (X_Layout_6 n) H := hB
  refine lv_iconst hx hb (show decode prog_8_method_1_code 54 = .ok (.iconst (0), 1) by decide +kernel) (v := nI 0) (by decide +kernel) ?_
  refine lv_istore_n hx hb (show decode prog_8_method_1_code 55 = .ok (.istore_n 1, 1) by decide +kernel) rfl hl (by decide) (lv' := [(1, .int (nI 0)), (0, .ref (b_a cx t))]) rfl (fun ls hl => ?_)
  have hl : lv_has ls 2 [(0, .ref (b_a cx t)), (1, .int (nI 0))] := lv_sub hl [1, 0] rfl
  refine b_cs (c2 := 6 + 2 * 0) (s2 := 240 + 6 * 0) rfl rfl (l_Layout (cells := 6) (slots := 240) I ht ⟨(Nat.le_of_ble_eq_true rfl), (Nat.le_of_ble_eq_true rfl)⟩ ⟨(Nat.le_of_ble_eq_true rfl), (Nat.le_of_ble_eq_true rfl)⟩ (fun H locs ls hB hS hl => ?_) 40 0 rfl H locs ls (by rw [q2_0]; exact hB) hS hl)
  have hB : x_W cx n t f (D_Layout_7 n) 6 (X_Layout_6 n) H := hB
  refine lv_aload_n hx hb (show decode prog_8_method_1_code 94 = .ok (.aload_n 0, 1) by decide +kernel) rfl (lv_at hl 0 rfl) ?_
  refine x_new I hS hB ht D_Layout_7_len 2 rfl (index := 25) (ty := tyX2) (zw (by decide +kernel) rfl) (zw (by decide +kernel) rfl) (zw (by decide +kernel) rfl) tyX2_ok d2fs (Nat.le_of_ble_eq_true rfl) (Nat.le_of_ble_eq_true rfl) (show decode prog_8_method_1_code 95 = .ok (.new 25, 3) by decide +kernel) (fun H hB hS => ?_)
  refine lv_dup hx hb (show decode prog_8_method_1_code 98 = .ok (.dup, 1) by decide +kernel) rfl ?_
  refine x_call (As := []) (rest := [.ref (b_a cx (n + 86)), .ref (b_a cx t)]) I (d_Flow) hS hB ht D_Layout_7_len (zw (by decide +kernel) rfl) (zw (by decide +kernel) rfl) (zw (by decide +kernel) rfl) (zw (by decide +kernel) rfl) rfl ⟨by decide, by decide, by decide +kernel⟩ ⟨(Nat.le_of_ble_eq_true rfl), (Nat.le_of_ble_eq_true rfl)⟩ hl.1 (Nat.le_of_ble_eq_true rfl) (show decode prog_8_method_1_code 99 = .ok (.invokespecial 34, 3) by decide +kernel) ⟨(Nat.le_of_ble_eq_true rfl), (Nat.le_of_ble_eq_true rfl)⟩ (fun H locs hB hS => ?_)
  have hB : x_W cx n t f (D_Layout_8 n) 6 (X_Layout_6 n) H := hB
  refine x_put I hS hB ht rfl 6 (by decide) (index := 35) (zw (by decide +kernel) rfl) rfl (ty := .object "JobText$Flow") (4, n + 86) rfl (by decide +kernel) rfl rfl (by rw [X_Layout_6_len]; decide) (show decode prog_8_method_1_code 102 = .ok (.putfield 35, 3) by decide +kernel) (fun H locs hB hS => ?_)
  have hB : x_W cx n t f (D_Layout_8 n) 6 (X_Layout_7 n) H := hB
  refine lv_aload_n hx hb (show decode prog_8_method_1_code 105 = .ok (.aload_n 0, 1) by decide +kernel) rfl (lv_at hl 0 rfl) ?_
  refine lv_bipush hx hb (show decode prog_8_method_1_code 106 = .ok (.bipush (40), 2) by decide +kernel) (v := nI 40) (by decide +kernel) ?_
  refine x_newa I hS hB ht D_Layout_8_len (atype := .int) (zw (by decide +kernel) rfl) 0 rfl (fun C h => by cases h) 40 (fun cA => rfl) (by decide +kernel) (by decide +kernel) (by decide) (Nat.le_of_ble_eq_true rfl) (Nat.le_of_ble_eq_true rfl) (show decode prog_8_method_1_code 108 = .ok (.newarray .int, 2) by decide +kernel) (fun H hB hS => ?_)
  have hB : x_W cx n t f (D_Layout_9 n) 6 (X_Layout_7 n) H := hB
  refine x_put I hS hB ht rfl 7 (by decide) (index := 39) (zw (by decide +kernel) rfl) rfl (ty := .array (.int)) (4, n + 87) rfl (by decide +kernel) rfl rfl (by rw [X_Layout_7_len]; decide) (show decode prog_8_method_1_code 110 = .ok (.putfield 39, 3) by decide +kernel) (fun H locs hB hS => ?_)
  have hB : x_W cx n t f (D_Layout_9 n) 6 (X_Layout_8 n) H := hB
  refine lv_aload_n hx hb (show decode prog_8_method_1_code 113 = .ok (.aload_n 0, 1) by decide +kernel) rfl (lv_at hl 0 rfl) ?_
  refine lv_bipush hx hb (show decode prog_8_method_1_code 114 = .ok (.bipush (40), 2) by decide +kernel) (v := nI 40) (by decide +kernel) ?_
  refine x_newa I hS hB ht D_Layout_9_len (atype := .int) (zw (by decide +kernel) rfl) 0 rfl (fun C h => by cases h) 40 (fun cA => rfl) (by decide +kernel) (by decide +kernel) (by decide) (Nat.le_of_ble_eq_true rfl) (Nat.le_of_ble_eq_true rfl) (show decode prog_8_method_1_code 116 = .ok (.newarray .int, 2) by decide +kernel) (fun H hB hS => ?_)
  have hB : x_W cx n t f (D_Layout_10 n) 6 (X_Layout_8 n) H := hB
  refine x_put I hS hB ht rfl 8 (by decide) (index := 42) (zw (by decide +kernel) rfl) rfl (ty := .array (.int)) (4, n + 88) rfl (by decide +kernel) rfl rfl (by rw [X_Layout_8_len]; decide) (show decode prog_8_method_1_code 118 = .ok (.putfield 42, 3) by decide +kernel) (fun H locs hB hS => ?_)
  have hB : x_W cx n t f (D_Layout_10 n) 6 (X_Layout_9 n) H := hB
  refine lv_aload_n hx hb (show decode prog_8_method_1_code 121 = .ok (.aload_n 0, 1) by decide +kernel) rfl (lv_at hl 0 rfl) ?_
  refine lv_bipush hx hb (show decode prog_8_method_1_code 122 = .ok (.bipush (40), 2) by decide +kernel) (v := nI 40) (by decide +kernel) ?_
  refine x_newa I hS hB ht D_Layout_10_len (atype := .boolean) (zw (by decide +kernel) rfl) 3 rfl (fun C h => by cases h) 40 (fun cA => rfl) (by decide +kernel) (by decide +kernel) (by decide) (Nat.le_of_ble_eq_true rfl) (Nat.le_of_ble_eq_true rfl) (show decode prog_8_method_1_code 124 = .ok (.newarray .boolean, 2) by decide +kernel) (fun H hB hS => ?_)
  have hB : x_W cx n t f (D_Layout_11 n) 6 (X_Layout_9 n) H := hB
  refine x_put I hS hB ht rfl 9 (by decide) (index := 45) (zw (by decide +kernel) rfl) rfl (ty := .array (.boolean)) (4, n + 89) rfl (by decide +kernel) rfl rfl (by rw [X_Layout_9_len]; decide) (show decode prog_8_method_1_code 126 = .ok (.putfield 45, 3) by decide +kernel) (fun H locs hB hS => ?_)
  have hB : x_W cx n t f (D_Layout_11 n) 6 (X_Layout_10 n) H := hB
  refine lv_aload_n hx hb (show decode prog_8_method_1_code 129 = .ok (.aload_n 0, 1) by decide +kernel) rfl (lv_at hl 0 rfl) ?_
  refine lv_bipush hx hb (show decode prog_8_method_1_code 130 = .ok (.bipush (40), 2) by decide +kernel) (v := nI 40) (by decide +kernel) ?_
  refine x_newa I hS hB ht D_Layout_11_len (atype := .int) (zw (by decide +kernel) rfl) 0 rfl (fun C h => by cases h) 40 (fun cA => rfl) (by decide +kernel) (by decide +kernel) (by decide) (Nat.le_of_ble_eq_true rfl) (Nat.le_of_ble_eq_true rfl) (show decode prog_8_method_1_code 132 = .ok (.newarray .int, 2) by decide +kernel) (fun H hB hS => ?_)
  have hB : x_W cx n t f (D_Layout_12 n) 6 (X_Layout_10 n) H := hB
  refine x_put I hS hB ht rfl 10 (by decide) (index := 49) (zw (by decide +kernel) rfl) rfl (ty := .array (.int)) (4, n + 90) rfl (by decide +kernel) rfl rfl (by rw [X_Layout_10_len]; decide) (show decode prog_8_method_1_code 134 = .ok (.putfield 49, 3) by decide +kernel) (fun H locs hB hS => ?_)
  have hB : x_W cx n t f (D_Layout_12 n) 6 (X_Layout_11 n) H := hB
  exact x_ret I (T := T_Layout) (F := F_Layout) hB rfl rfl hS (Nat.le_of_ble_eq_true rfl) (Nat.le_of_ble_eq_true rfl) (show decode prog_8_method_1_code 137 = .ok (.return_, 1) by decide +kernel)
