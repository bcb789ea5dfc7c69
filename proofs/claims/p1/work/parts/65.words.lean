/-! ===== Words: the keys ===== -/
theorem w_st_le : ∀ i : Nat, (w_st i).2 ≤ i := by
  intro i
  induction i with
  | zero => exact Nat.le_refl _
  | succ i ih =>
    unfold w_st
    split
    · show (w_st i).2 + 1 ≤ i + 1
      omega
    · split
      · show (w_st i).2 ≤ i + 1
        omega
      · omega
def kc (cx : zX) (g : Nat → Int64) : va_E := .inl (cx.2.2.1 1, 21, .inr (.inl g))
section WORDS
variable {p : Program} {l : Launch} {e : Env} {R : Room} {s : State} {m : MethodId} {args : Array Value} {below : List Frame} {meth : Method} {c : Code} {slots : Nat} {Q : State → Prop} {cx : zX} {n t : Nat} {f : Nat → va_E} {X : List dV}
theorem l_Words (I : b_In cx prog_12_method_1_code 6 RX10 p s m args meth c) (ht : t < n) (hs : s.heap.size = b_a cx n) (hX : X[0]? = some (4, n + 2)) (hR : 5 ≤ R.frames ∧ 106 ≤ R.locals) (hf : 3 ≤ R.cells ∧ slots ≤ R.slots) {A B : va_E}
    (kk : ∀ (H : Heap) (locs : List Loc) (ls : Array Slot), b_W cx (n + 3) (b_up (b_cat n f [A, B, kc cx w_keys]) t (den cx (dO 10 X))) H → va_S (z_A cx) s.heap H locs → W p l e R s m args below meth c H locs 3 slots Q (F0 m 114 ls [])) :
    ∀ (r i : Nat), i + r = 100 → ∀ (H : Heap) (locs : List Loc) (ls : Array Slot), b_W cx (n + 3) (b_up (b_cat n f [A, B, kc cx (w_st i).1]) t (den cx (dO 10 X))) H → va_S (z_A cx) s.heap H locs → lv_has ls 6 [(0, .ref (b_a cx t)), (4, .int (nI (w_st i).2)), (5, .int (nI i))] → W p l e R s m args below meth c H locs 3 slots Q (F0 m 49 ls []) := by
  have hx := I.1
  have hb := I.2.1
  have hown := I.2.2.2.2.1
  have hK := I.2.2.2.2.2.2.2.2.1
  have hC := I.2.2.2.2.2.2.2.2.2.1
  have hstr : vk_R RX10 34 "use set source op loop from to par rate pass key keep side map filter flat span join union fold sink" (cx.2.1 (0, 0, 0)) s := hC.2.2.2.2.2.2.2.2 10 (34, 0, "use set source op loop from to par rate pass key keep side map filter flat span join union fold sink") (by decide +kernel)
  have hnest : va_Nw (.methodLinkNest RX10 46 (z_m 8).1 RX11) s := hC.2.2.2.2.2.2.1 10 (46, 8, 2, 589) (by decide +kernel) rfl
  have hb0 : cx.2.2.2.2 ≤ s.heap.size := by rw [hs]; exact Nat.le_add_right _ _
  have hz : ∀ {g : Nat → va_E} {H : Heap}, b_W cx (n + 3) g H → s.heap.size + 3 = H.size := fun h => by rw [h.1, hs]; unfold b_a; omega
  have v0 : ∀ {k : Nat}, z_vv (b_cx cx k) (.inr (.inr (0, 0, 0))) := fun {k} => z_vl_str (cx := b_cx cx k) (i := 0) (by decide)
  have hv1 : ∀ {k : Nat}, ∀ w ∈ ([.inr (.inr (0, 0, 0))] : List zV), z_vv (b_cx cx k) w := fun {k} w hw => by
    cases hw with
    | head => exact v0
    | tail _ hw => cases hw
  have hv2 : ∀ {k : Nat} {x : Int32}, ∀ w ∈ ([.inr (.inr (0, 0, 0)), .inl x] : List zV), z_vv (b_cx cx k) w := fun {k x} w hw => by
    cases hw with
    | head => exact v0
    | tail _ hw =>
      cases hw with
      | head => exact trivial
      | tail _ hw => cases hw
  have hv3 : ∀ {k : Nat} {x : Int64} {z : Int32}, ∀ w ∈ ([.inr (.inl x), .inl z] : List zV), z_vv (b_cx cx k) w := fun {k x z} w hw => by
    cases hw with
    | head => exact trivial
    | tail _ hw =>
      cases hw with
      | head => exact trivial
      | tail _ hw => cases hw
  have hgk : ∀ {g : Nat → Int64}, b_up (b_cat n f [A, B, kc cx g]) t (den cx (dO 10 X)) (n + 2) = kc cx g := fun {g} => by
    rw [b_up_n (by omega), b_cat_hi]
    rfl
  intro r
  induction r with
  | zero =>
    intro i hi H locs ls hB hS hl
    have e : i = 100 := by omega
    subst e
    refine lv_iload hx hb (show decode prog_12_method_1_code 49 = .ok (.iload 5, 2) by decide +kernel) (lv_at hl 2 rfl) ?_
    refine va_ldcS hx hb hown hstr (show decode prog_12_method_1_code 51 = .ok (.ldc 34, 2) by decide +kernel) ?_
    refine b_pV (y := 1) (as := []) (v := .inl (nI 100)) (rest := [.int (nI 100)]) I hS (hz hB) hb0 (by decide) (by decide +kernel) (by decide +kernel) hv1 (zOk.ofI (p_length rfl)) (index := 36) (zw (by decide +kernel) rfl) (by decide +kernel) ⟨Nat.le_trans (by decide +kernel) hR.1, Nat.le_trans (by decide +kernel) hR.2⟩ hl.1 rfl (Nat.le_of_ble_eq_true rfl) (show decode prog_12_method_1_code 53 = .ok (.invokevirtual 36, 3) by decide +kernel) hf (fun locs hS => ?_)
    refine lv_icmp_ge hx hb (show decode prog_12_method_1_code 56 = .ok (.if_icmp .ge 58, 3) by decide +kernel) (tgt := 114) rfl (fun _ => ?_) (fun h => absurd (nI_le (Nat.le_refl _) (by decide)) h)
    exact kk H locs ls hB hS
  | succ r ih =>
    intro i hi H locs ls hB hS hl
    have hi1 : i < 100 := by omega
    have hle := w_st_le i
    have back : ∀ (H : Heap) (locs : List Loc) (ls : Array Slot), b_W cx (n + 3) (b_up (b_cat n f [A, B, kc cx (w_st (i + 1)).1]) t (den cx (dO 10 X))) H → va_S (z_A cx) s.heap H locs → lv_has ls 6 [(0, .ref (b_a cx t)), (4, .int (nI (w_st (i + 1)).2)), (5, .int (nI i))] → W p l e R s m args below meth c H locs 3 slots Q (F0 m 108 ls []) := by
      intro H locs ls hB hS hl
      refine lv_iinc hx hb (show decode prog_12_method_1_code 108 = .ok (.iinc 5 1, 3) by decide +kernel) hl (k := 2) rfl (v := nI (i + 1)) (nI_succ i).symm (by decide) (lv' := [(5, .int (nI (i + 1))), (0, .ref (b_a cx t)), (4, .int (nI (w_st (i + 1)).2))]) rfl (fun ls hl => ?_)
      refine lv_goto hx hb (show decode prog_12_method_1_code 111 = .ok (.goto (-62), 3) by decide +kernel) (tgt := 49) rfl ?_
      exact ih (i + 1) (by omega) H locs ls hB hS (lv_sub hl [1, 2, 0] rfl)
    refine lv_iload hx hb (show decode prog_12_method_1_code 49 = .ok (.iload 5, 2) by decide +kernel) (lv_at hl 2 rfl) ?_
    refine va_ldcS hx hb hown hstr (show decode prog_12_method_1_code 51 = .ok (.ldc 34, 2) by decide +kernel) ?_
    refine b_pV (y := 1) (as := []) (v := .inl (nI 100)) (rest := [.int (nI i)]) I hS (hz hB) hb0 (by decide) (by decide +kernel) (by decide +kernel) hv1 (zOk.ofI (p_length rfl)) (index := 36) (zw (by decide +kernel) rfl) (by decide +kernel) ⟨Nat.le_trans (by decide +kernel) hR.1, Nat.le_trans (by decide +kernel) hR.2⟩ hl.1 rfl (Nat.le_of_ble_eq_true rfl) (show decode prog_12_method_1_code 53 = .ok (.invokevirtual 36, 3) by decide +kernel) hf (fun locs hS => ?_)
    refine lv_icmp_ge hx hb (show decode prog_12_method_1_code 56 = .ok (.if_icmp .ge 58, 3) by decide +kernel) (tgt := 114) rfl (fun h => absurd h (nI_ge (b := 100) hi1 (by decide))) (fun _ => ?_)
    refine va_ldcS hx hb hown hstr (show decode prog_12_method_1_code 59 = .ok (.ldc 34, 2) by decide +kernel) ?_
    refine lv_iload hx hb (show decode prog_12_method_1_code 61 = .ok (.iload 5, 2) by decide +kernel) (lv_at hl 2 rfl) ?_
    refine b_pV (y := 6) (as := [.inl (nI i)]) (v := .inl (w_byte i)) (rest := []) I hS (hz hB) hb0 (by decide) (by decide +kernel) (by decide +kernel) hv2 (zOk.ofI (p_charAt hi1 rfl)) (index := 42) (zw (by decide +kernel) rfl) (show (1 : Nat) = (z_m 6).2.2.2.2.2.1.2 by decide +kernel) ⟨Nat.le_trans (by decide +kernel) hR.1, Nat.le_trans (by decide +kernel) hR.2⟩ hl.1 rfl (Nat.le_of_ble_eq_true rfl) (show decode prog_12_method_1_code 63 = .ok (.invokevirtual 42, 3) by decide +kernel) hf (fun locs hS => ?_)
    refine lv_bipush hx hb (show decode prog_12_method_1_code 66 = .ok (.bipush 32, 2) by decide +kernel) (v := 32) (by decide +kernel) ?_
    refine lv_icmp_ne hx hb (show decode prog_12_method_1_code 68 = .ok (.if_icmp .ne 9, 3) by decide +kernel) (tgt := 77) rfl (fun hne => ?_) (fun heq => ?_)
    · have hne : ¬ w_byte i = 32 := hne
      refine lv_iload hx hb (show decode prog_12_method_1_code 77 = .ok (.iload 4, 2) by decide +kernel) (lv_at hl 1 rfl) ?_
      refine lv_bipush hx hb (show decode prog_12_method_1_code 79 = .ok (.bipush 21, 2) by decide +kernel) (v := nI 21) (by decide +kernel) ?_
      refine lv_icmp_ge hx hb (show decode prog_12_method_1_code 81 = .ok (.if_icmp .ge 27, 3) by decide +kernel) (tgt := 108) rfl (fun hge => ?_) (fun hlt => ?_)
      · have h21 : ¬ (w_st i).2 < 21 := Nat.not_lt.mpr ((nI_leI (by decide) (by omega)).mp hge)
        have e1 : w_st (i + 1) = w_st i := by
          show (if w_byte i = 32 then _ else _) = _
          rw [if_neg hne, if_neg h21]
        exact back H locs ls (by rw [e1]; exact hB) hS (by rw [e1]; exact hl)
      · have h21 : (w_st i).2 < 21 := Nat.not_le.mp (fun z => hlt ((nI_leI (by decide) (by omega)).mpr z))
        have e1 : w_st (i + 1) = (vp_updL (w_st i).1 (w_st i).2 (w_long ((w_st i).1 (w_st i).2) (w_byte i)), (w_st i).2) := by
          show (if w_byte i = 32 then _ else _) = _
          rw [if_neg hne, if_pos h21]
        refine lv_aload_n hx hb (show decode prog_12_method_1_code 84 = .ok (.aload_n 0, 1) by decide +kernel) rfl (lv_at hl 0 rfl) ?_
        refine n_get I (ci := 10) (fs := X.map (dv cx)) hB (by omega) rfl 0 (by decide) (index := 30) (zw (by decide +kernel) rfl) (v := .ref (b_a cx (n + 2))) (by rw [List.getElem?_map, hX]; rfl) (show decode prog_12_method_1_code 85 = .ok (.getfield 30, 3) by decide +kernel) ?_
        refine lv_iload hx hb (show decode prog_12_method_1_code 88 = .ok (.iload 4, 2) by decide +kernel) (lv_at hl 1 rfl) ?_
        refine lv_aload_n hx hb (show decode prog_12_method_1_code 90 = .ok (.aload_n 0, 1) by decide +kernel) rfl (lv_at hl 0 rfl) ?_
        refine n_get I (ci := 10) (fs := X.map (dv cx)) hB (by omega) rfl 0 (by decide) (index := 30) (zw (by decide +kernel) rfl) (v := .ref (b_a cx (n + 2))) (by rw [List.getElem?_map, hX]; rfl) (show decode prog_12_method_1_code 91 = .ok (.getfield 30, 3) by decide +kernel) ?_
        refine lv_iload hx hb (show decode prog_12_method_1_code 94 = .ok (.iload 4, 2) by decide +kernel) (lv_at hl 1 rfl) ?_
        refine b_lald hx hb hK hB (by omega) hgk (t := 1) rfl (vp_in_nI h21 (by decide)) (show decode prog_12_method_1_code 96 = .ok (.laload, 1) by decide +kernel) ?_
        rw [nI_clamp (by omega)]
        refine va_ldcS hx hb hown hstr (show decode prog_12_method_1_code 97 = .ok (.ldc 34, 2) by decide +kernel) ?_
        refine lv_iload hx hb (show decode prog_12_method_1_code 99 = .ok (.iload 5, 2) by decide +kernel) (lv_at hl 2 rfl) ?_
        refine b_pV (y := 6) (as := [.inl (nI i)]) (v := .inl (w_byte i)) (rest := [.long ((w_st i).1 (w_st i).2), .int (nI (w_st i).2), .ref (b_a cx (n + 2))]) I hS (hz hB) hb0 (by decide) (by decide +kernel) (by decide +kernel) hv2 (zOk.ofI (p_charAt hi1 rfl)) (index := 42) (zw (by decide +kernel) rfl) (show (1 : Nat) = (z_m 6).2.2.2.2.2.1.2 by decide +kernel) ⟨Nat.le_trans (by decide +kernel) hR.1, Nat.le_trans (by decide +kernel) hR.2⟩ hl.1 rfl (Nat.le_of_ble_eq_true rfl) (show decode prog_12_method_1_code 101 = .ok (.invokevirtual 42, 3) by decide +kernel) hf (fun locs hS => ?_)
        refine b_pSN (y := 8) (as := [.inr (.inl ((w_st i).1 (w_st i).2)), .inl (w_byte i)]) (v := .inr (.inl (w_long ((w_st i).1 (w_st i).2) (w_byte i)))) (rest := [.int (nI (w_st i).2), .ref (b_a cx (n + 2))]) I hS (hz hB) hb0 (by decide) (by decide +kernel) hv3 (zOk.ofL (p_longer rfl)) (index := 46) hnest (show (2 : Nat) = (z_m 8).2.2.2.2.2.1.2 by decide +kernel) ⟨Nat.le_trans (by decide +kernel) hR.1, Nat.le_trans (by decide +kernel) hR.2⟩ hl.1 rfl (Nat.le_of_ble_eq_true rfl) (show decode prog_12_method_1_code 104 = .ok (.invokestatic 46, 3) by decide +kernel) hf (fun locs hS => ?_)
        refine b_last hx hb hK hB hS (by omega) hgk (t := 1) rfl (vp_in_nI h21 (by decide)) (show decode prog_12_method_1_code 107 = .ok (.lastore, 1) by decide +kernel) (fun H locs hB hS => ?_)
        rw [nI_clamp (by omega), b_cat_set ht (show 2 < 3 by decide)] at hB
        exact back H locs ls (by rw [e1]; exact hB) hS (by rw [e1]; exact hl)
    · have heq : w_byte i = 32 := heq
      have e1 : w_st (i + 1) = ((w_st i).1, (w_st i).2 + 1) := by
        show (if w_byte i = 32 then _ else _) = _
        rw [if_pos heq]
      refine lv_iinc hx hb (show decode prog_12_method_1_code 71 = .ok (.iinc 4 1, 3) by decide +kernel) hl (k := 1) rfl (v := nI ((w_st i).2 + 1)) (nI_succ _).symm (by decide) (lv' := [(4, .int (nI ((w_st i).2 + 1))), (0, .ref (b_a cx t)), (5, .int (nI i))]) rfl (fun ls hl => ?_)
      refine lv_goto hx hb (show decode prog_12_method_1_code 74 = .ok (.goto 34, 3) by decide +kernel) (tgt := 108) rfl ?_
      exact back H locs ls (by rw [e1]; exact hB) hS (by rw [e1]; exact lv_sub hl [1, 0, 2] rfl)
end WORDS
def y_Words : MethodName := ⟨RX10, "<init>", "([LJobText$Bytes;LJobText$Fault;LJobText$Job;)V"⟩
def D_Words_0 (n : Nat) (a1 : Nat) (a2 : Nat) (a3 : Nat) : List dE := []
theorem D_Words_0_len {n : Nat} {a1 : Nat} {a2 : Nat} {a3 : Nat} : (D_Words_0 n a1 a2 a3).length = 0 := rfl
def X_Words_0 (n : Nat) (a1 : Nat) (a2 : Nat) (a3 : Nat) : List dV := d_df 10
theorem X_Words_0_len {n : Nat} {a1 : Nat} {a2 : Nat} {a3 : Nat} : (X_Words_0 n a1 a2 a3).length = 13 := by
  show (d_df 10).length = 13
  decide +kernel
def X_Words_1 (n : Nat) (a1 : Nat) (a2 : Nat) (a3 : Nat) : List dV := (X_Words_0 n a1 a2 a3).set 1 (4, a1)
theorem X_Words_1_len {n : Nat} {a1 : Nat} {a2 : Nat} {a3 : Nat} : (X_Words_1 n a1 a2 a3).length = 13 := by rw [X_Words_1, List.length_set, X_Words_0_len]
def X_Words_2 (n : Nat) (a1 : Nat) (a2 : Nat) (a3 : Nat) : List dV := (X_Words_1 n a1 a2 a3).set 2 (4, a2)
theorem X_Words_2_len {n : Nat} {a1 : Nat} {a2 : Nat} {a3 : Nat} : (X_Words_2 n a1 a2 a3).length = 13 := by rw [X_Words_2, List.length_set, X_Words_1_len]
def X_Words_3 (n : Nat) (a1 : Nat) (a2 : Nat) (a3 : Nat) : List dV := (X_Words_2 n a1 a2 a3).set 3 (4, a3)
theorem X_Words_3_len {n : Nat} {a1 : Nat} {a2 : Nat} {a3 : Nat} : (X_Words_3 n a1 a2 a3).length = 13 := by rw [X_Words_3, List.length_set, X_Words_2_len]
def D_Words_1 (n : Nat) (a1 : Nat) (a2 : Nat) (a3 : Nat) : List dE := D_Words_0 n a1 a2 a3 ++ [dA 0 6]
theorem D_Words_1_len {n : Nat} {a1 : Nat} {a2 : Nat} {a3 : Nat} : (D_Words_1 n a1 a2 a3).length = 1 := by rw [D_Words_1, List.length_append, D_Words_0_len]; rfl
def X_Words_4 (n : Nat) (a1 : Nat) (a2 : Nat) (a3 : Nat) : List dV := (X_Words_3 n a1 a2 a3).set 4 (4, n + 0)
theorem X_Words_4_len {n : Nat} {a1 : Nat} {a2 : Nat} {a3 : Nat} : (X_Words_4 n a1 a2 a3).length = 13 := by rw [X_Words_4, List.length_set, X_Words_3_len]
def D_Words_2 (n : Nat) (a1 : Nat) (a2 : Nat) (a3 : Nat) : List dE := D_Words_1 n a1 a2 a3 ++ [dA 0 6]
theorem D_Words_2_len {n : Nat} {a1 : Nat} {a2 : Nat} {a3 : Nat} : (D_Words_2 n a1 a2 a3).length = 2 := by rw [D_Words_2, List.length_append, D_Words_1_len]; rfl
def X_Words_5 (n : Nat) (a1 : Nat) (a2 : Nat) (a3 : Nat) : List dV := (X_Words_4 n a1 a2 a3).set 5 (4, n + 1)
theorem X_Words_5_len {n : Nat} {a1 : Nat} {a2 : Nat} {a3 : Nat} : (X_Words_5 n a1 a2 a3).length = 13 := by rw [X_Words_5, List.length_set, X_Words_4_len]
def D_Words_3 (n : Nat) (a1 : Nat) (a2 : Nat) (a3 : Nat) : List dE := D_Words_2 n a1 a2 a3 ++ [dA 1 21]
theorem D_Words_3_len {n : Nat} {a1 : Nat} {a2 : Nat} {a3 : Nat} : (D_Words_3 n a1 a2 a3).length = 3 := by rw [D_Words_3, List.length_append, D_Words_2_len]; rfl
def X_Words_6 (n : Nat) (a1 : Nat) (a2 : Nat) (a3 : Nat) : List dV := (X_Words_5 n a1 a2 a3).set 0 (4, n + 2)
theorem X_Words_6_len {n : Nat} {a1 : Nat} {a2 : Nat} {a3 : Nat} : (X_Words_6 n a1 a2 a3).length = 13 := by rw [X_Words_6, List.length_set, X_Words_5_len]
theorem X_Words_keys {n a1 a2 a3 : Nat} : (X_Words_6 n a1 a2 a3)[0]? = some (4, n + 2) := by rfl
def T_Words (a1 : Nat) (a2 : Nat) (a3 : Nat) (n : Nat) : List dE := [dA 0 6, dA 0 6, (2, 21, 0, 1, 0, [])]
theorem T_Words_len {a1 : Nat} {a2 : Nat} {a3 : Nat} {n : Nat} : (T_Words a1 a2 a3 n).length = 3 := rfl
def F_Words (a1 : Nat) (a2 : Nat) (a3 : Nat) (n : Nat) : List dV := X_Words_6 n a1 a2 a3
theorem d_Words {cx : zX} {a1 : Nat} {a2 : Nat} {a3 : Nat} : dOk y_Words prog_12_method_1_code 6 5 106 3 33 cx [.ref (b_a cx a1), .ref (b_a cx a2), .ref (b_a cx a3)] 10 (T_Words a1 a2 a3) (F_Words a1 a2 a3) := by
  intro n t f hf ht
  refine b_enter rfl (by decide) (Nat.le_of_ble_eq_true rfl) (fun p l e s m below meth c ls I hB hl hS => ?_)
  have hl : lv_has ls 6 [(0, .ref (b_a cx t)), (1, .ref (b_a cx a1)), (2, .ref (b_a cx a2)), (3, .ref (b_a cx a3))] := hl
  have hx := I.1
  have hb := I.2.1
  have hs := hB.1
  have hB : x_W cx n t f (D_Words_0 n a1 a2 a3) 10 (X_Words_0 n a1 a2 a3) s.heap := x_W0 hB hf
  refine lv_aload_n hx hb (show decode prog_12_method_1_code 0 = .ok (.aload_n 0, 1) by decide +kernel) rfl (lv_at hl 0 rfl) ?_
  refine b_obj I (idx := 3) (zw (by decide +kernel) rfl) hl.1 (show decode prog_12_method_1_code 1 = .ok (.invokespecial 3, 3) by decide +kernel) (Nat.le_of_ble_eq_true rfl) (Nat.le_of_ble_eq_true rfl) ?_
  refine lv_aload_n hx hb (show decode prog_12_method_1_code 4 = .ok (.aload_n 0, 1) by decide +kernel) rfl (lv_at hl 0 rfl) ?_
  refine lv_aload_n hx hb (show decode prog_12_method_1_code 5 = .ok (.aload_n 1, 1) by decide +kernel) rfl (lv_at hl 1 rfl) ?_
  refine x_put I hS hB ht rfl 1 (by decide) (index := 9) (zw (by decide +kernel) rfl) rfl (ty := .array (.object "JobText$Bytes")) (4, a1) rfl (by decide +kernel) rfl rfl (by rw [X_Words_0_len]; decide) (show decode prog_12_method_1_code 6 = .ok (.putfield 9, 3) by decide +kernel) (fun H locs hB hS => ?_)
  have hB : x_W cx n t f (D_Words_0 n a1 a2 a3) 10 (X_Words_1 n a1 a2 a3) H := hB
  refine lv_aload_n hx hb (show decode prog_12_method_1_code 9 = .ok (.aload_n 0, 1) by decide +kernel) rfl (lv_at hl 0 rfl) ?_
  refine lv_aload_n hx hb (show decode prog_12_method_1_code 10 = .ok (.aload_n 2, 1) by decide +kernel) rfl (lv_at hl 2 rfl) ?_
  refine x_put I hS hB ht rfl 2 (by decide) (index := 15) (zw (by decide +kernel) rfl) rfl (ty := .object "JobText$Fault") (4, a2) rfl (by decide +kernel) rfl rfl (by rw [X_Words_1_len]; decide) (show decode prog_12_method_1_code 11 = .ok (.putfield 15, 3) by decide +kernel) (fun H locs hB hS => ?_)
  have hB : x_W cx n t f (D_Words_0 n a1 a2 a3) 10 (X_Words_2 n a1 a2 a3) H := hB
  refine lv_aload_n hx hb (show decode prog_12_method_1_code 14 = .ok (.aload_n 0, 1) by decide +kernel) rfl (lv_at hl 0 rfl) ?_
  refine lv_aload_n hx hb (show decode prog_12_method_1_code 15 = .ok (.aload_n 3, 1) by decide +kernel) rfl (lv_at hl 3 rfl) ?_
  refine x_put I hS hB ht rfl 3 (by decide) (index := 19) (zw (by decide +kernel) rfl) rfl (ty := .object "JobText$Job") (4, a3) rfl (by decide +kernel) rfl rfl (by rw [X_Words_2_len]; decide) (show decode prog_12_method_1_code 16 = .ok (.putfield 19, 3) by decide +kernel) (fun H locs hB hS => ?_)
  have hB : x_W cx n t f (D_Words_0 n a1 a2 a3) 10 (X_Words_3 n a1 a2 a3) H := hB
  refine lv_aload_n hx hb (show decode prog_12_method_1_code 19 = .ok (.aload_n 0, 1) by decide +kernel) rfl (lv_at hl 0 rfl) ?_
  refine lv_bipush hx hb (show decode prog_12_method_1_code 20 = .ok (.bipush (6), 2) by decide +kernel) (v := nI 6) (by decide +kernel) ?_
  refine x_newa I hS hB ht D_Words_0_len (atype := .int) (zw (by decide +kernel) rfl) 0 rfl (fun C h => by cases h) 6 (fun cA => rfl) (by decide +kernel) (by decide +kernel) (by decide) (Nat.le_of_ble_eq_true rfl) (Nat.le_of_ble_eq_true rfl) (show decode prog_12_method_1_code 22 = .ok (.newarray .int, 2) by decide +kernel) (fun H hB hS => ?_)
  have hB : x_W cx n t f (D_Words_1 n a1 a2 a3) 10 (X_Words_3 n a1 a2 a3) H := hB
  refine x_put I hS hB ht rfl 4 (by decide) (index := 23) (zw (by decide +kernel) rfl) rfl (ty := .array (.int)) (4, n + 0) rfl (by decide +kernel) rfl rfl (by rw [X_Words_3_len]; decide) (show decode prog_12_method_1_code 24 = .ok (.putfield 23, 3) by decide +kernel) (fun H locs hB hS => ?_)
  have hB : x_W cx n t f (D_Words_1 n a1 a2 a3) 10 (X_Words_4 n a1 a2 a3) H := hB
  refine lv_aload_n hx hb (show decode prog_12_method_1_code 27 = .ok (.aload_n 0, 1) by decide +kernel) rfl (lv_at hl 0 rfl) ?_
  refine lv_bipush hx hb (show decode prog_12_method_1_code 28 = .ok (.bipush (6), 2) by decide +kernel) (v := nI 6) (by decide +kernel) ?_
  refine x_newa I hS hB ht D_Words_1_len (atype := .int) (zw (by decide +kernel) rfl) 0 rfl (fun C h => by cases h) 6 (fun cA => rfl) (by decide +kernel) (by decide +kernel) (by decide) (Nat.le_of_ble_eq_true rfl) (Nat.le_of_ble_eq_true rfl) (show decode prog_12_method_1_code 30 = .ok (.newarray .int, 2) by decide +kernel) (fun H hB hS => ?_)
  have hB : x_W cx n t f (D_Words_2 n a1 a2 a3) 10 (X_Words_4 n a1 a2 a3) H := hB
  refine x_put I hS hB ht rfl 5 (by decide) (index := 27) (zw (by decide +kernel) rfl) rfl (ty := .array (.int)) (4, n + 1) rfl (by decide +kernel) rfl rfl (by rw [X_Words_4_len]; decide) (show decode prog_12_method_1_code 32 = .ok (.putfield 27, 3) by decide +kernel) (fun H locs hB hS => ?_)
  have hB : x_W cx n t f (D_Words_2 n a1 a2 a3) 10 (X_Words_5 n a1 a2 a3) H := hB
  refine lv_aload_n hx hb (show decode prog_12_method_1_code 35 = .ok (.aload_n 0, 1) by decide +kernel) rfl (lv_at hl 0 rfl) ?_
  refine lv_bipush hx hb (show decode prog_12_method_1_code 36 = .ok (.bipush (21), 2) by decide +kernel) (v := nI 21) (by decide +kernel) ?_
  refine x_newa I hS hB ht D_Words_2_len (atype := .long) (zw (by decide +kernel) rfl) 1 rfl (fun C h => by cases h) 21 (fun cA => rfl) (by decide +kernel) (by decide +kernel) (by decide) (Nat.le_of_ble_eq_true rfl) (Nat.le_of_ble_eq_true rfl) (show decode prog_12_method_1_code 38 = .ok (.newarray .long, 2) by decide +kernel) (fun H hB hS => ?_)
  have hB : x_W cx n t f (D_Words_3 n a1 a2 a3) 10 (X_Words_5 n a1 a2 a3) H := hB
  refine x_put I hS hB ht rfl 0 (by decide) (index := 30) (zw (by decide +kernel) rfl) rfl (ty := .array (.long)) (4, n + 2) rfl (by decide +kernel) rfl rfl (by rw [X_Words_5_len]; decide) (show decode prog_12_method_1_code 40 = .ok (.putfield 30, 3) by decide +kernel) (fun H locs hB hS => ?_)
  have hB : x_W cx n t f (D_Words_3 n a1 a2 a3) 10 (X_Words_6 n a1 a2 a3) H := hB
  refine lv_iconst hx hb (show decode prog_12_method_1_code 43 = .ok (.iconst (0), 1) by decide +kernel) (v := nI 0) (by decide +kernel) ?_
  refine lv_istore hx hb (show decode prog_12_method_1_code 44 = .ok (.istore 4, 2) by decide +kernel) hl (by decide) (lv' := [(4, .int (nI 0)), (0, .ref (b_a cx t)), (1, .ref (b_a cx a1)), (2, .ref (b_a cx a2)), (3, .ref (b_a cx a3))]) rfl (fun ls hl => ?_)
  refine lv_iconst hx hb (show decode prog_12_method_1_code 46 = .ok (.iconst (0), 1) by decide +kernel) (v := nI 0) (by decide +kernel) ?_
  refine lv_istore hx hb (show decode prog_12_method_1_code 47 = .ok (.istore 5, 2) by decide +kernel) hl (by decide) (lv' := [(5, .int (nI 0)), (4, .int (nI 0)), (0, .ref (b_a cx t)), (1, .ref (b_a cx a1)), (2, .ref (b_a cx a2)), (3, .ref (b_a cx a3))]) rfl (fun ls hl => ?_)
  refine b_cs (c2 := 3) (s2 := 33) rfl rfl (l_Words (A := den cx (dA 0 6)) (B := den cx (dA 0 6)) I ht hs X_Words_keys ⟨(Nat.le_of_ble_eq_true rfl), (Nat.le_of_ble_eq_true rfl)⟩ ⟨(Nat.le_of_ble_eq_true rfl), (Nat.le_of_ble_eq_true rfl)⟩ (fun H locs ls hB hS => ?_) 100 0 rfl H locs ls hB hS (lv_sub hl [2, 1, 0] rfl))
  exact b_ret I (u := (_, _)) hB hS (Nat.le_of_ble_eq_true rfl) (Nat.le_of_ble_eq_true rfl) (show decode prog_12_method_1_code 114 = .ok (.return_, 1) by decide +kernel)
