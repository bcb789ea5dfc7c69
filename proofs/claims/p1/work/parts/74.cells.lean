/-! ===== the fresh world is a world ===== -/
/-- addresses are as made -/
def w_ad (cx : zX) : Prop := ∀ q : zR, 10 ≤ q.1 → q.1 ≠ 99 → cx.2.1 q = b_a cx (z_off q)
theorem h_r_ok {q q' : zR} {k : Nat} (h : h_r q k = some q') : q'.2.2 < z_bd q'.1 q'.2.1 ∧ 10 ≤ q'.1 ∧ q'.1 ≠ 99 ∧ q'.1 ≠ 3 := by
  unfold h_r at h
  split at h
  · split at h <;> cases h <;> decide +kernel
  · split at h <;> cases h <;> decide +kernel
  · split at h <;> cases h <;> decide +kernel
  · split at h <;> cases h <;> decide +kernel
  · cases h
theorem z_bd99 : z_bds.getD 99 [] = [] := by decide +kernel
theorem z_ne99 {cx : zX} {q : zR} (hv : z_vl cx q) : q.1 ≠ 99 := by
  intro h
  have h1 := hv.1
  unfold z_bd at h1
  rw [h, z_bd99] at h1
  simp at h1
section FW
variable {cx : zX}
theorem z_dv_fv (had : w_ad cx) {q : zR} {k : Nat} (hv : z_vl cx q) (h10 : 10 ≤ q.1) (h23 : q.1 < 23) (hk : k < z_nf (q.1 - 10)) : dv cx (z_dv q k) = z_fv cx h_0 q k := by
  have h51 : ¬ q.1 = 51 := by omega
  have hi : dv cx (if h_neg q.1 k = true then (1, 5) else (0, 0)) = .int (h_0.1 q k) := by
    show _ = Value.int (if h_neg q.1 k = true then -(nI 5) else nI 0)
    by_cases h : h_neg q.1 k = true
    · rw [if_pos h, if_pos h]; rfl
    · rw [if_neg h, if_neg h]; rfl
  have hl : dv cx (2, if q.1 = 12 ∧ k = 1 then 1 else 0) = .long (h_0.2.1 q k) := by
    show _ = Value.long (if q.1 = 51 then w_keys k else lN (if q.1 = 12 ∧ k = 1 then 1 else 0))
    rw [if_neg h51]
    rfl
  have hd : dv cx (match h_r q k with
      | some q' => (4, z_off q')
      | none => (3, 0)) = va_rf ((h_0.2.2 q k).map cx.2.1) := by
    show _ = va_rf ((h_r q k).map cx.2.1)
    cases h : h_r q k with
    | none => rfl
    | some q' =>
      have h1 := h_r_ok h
      show Value.ref (b_a cx (z_off q')) = Value.ref (cx.2.1 q')
      rw [had q' h1.2.1 h1.2.2.1]
  have hf : z_tc q.1 k = 2 → dv cx (4, z_off (z_fr q k)) = .ref (cx.2.1 (z_fr q k)) := by
    intro ht
    have h := z_vl_fr hv h10 h23 hk ht
    rw [had _ h.2 (z_ne99 h.1)]
    rfl
  unfold z_dv z_fv
  generalize z_tc q.1 k = tc at hf
  match tc, hf with
  | 0, _ => exact hi
  | 1, _ => exact hl
  | 2, hf => exact hf rfl
  | 3, _ => exact hd
  | 4, _ => exact hd
  | 5, _ => exact hi
  | n + 6, _ => exact hd
theorem w_cell_o (had : w_ad cx) {q : zR} (hv : z_vl cx q) (h10 : 10 ≤ q.1) (h23 : q.1 < 23) : den cx (z_ds q) = z_cell cx h_0 q := by
  rw [z_cell_o h23]
  unfold z_ds
  rw [if_pos h23]
  show (Sum.inr (q.1 - 10, ((List.range (z_nf (q.1 - 10))).map (z_dv q)).map (dv cx)) : va_E) = _
  rw [List.map_map]
  exact congrArg (fun l => (Sum.inr (q.1 - 10, l) : va_E)) (List.map_congr_left (fun k hk => z_dv_fv had hv h10 h23 (List.mem_range.mp hk)))
theorem arrV_congr {cA : ClassId} {N : Nat} {f g : Nat → Value} (h : ∀ j, j < N → f j = g j) : arrV cA N f = arrV cA N g := by
  unfold arrV
  have e : (fun j : Fin N => f j.val) = fun j : Fin N => g j.val := funext (fun j => h j.val j.isLt)
  rw [e]
theorem h0_i {q : zR} (h23 : 23 ≤ q.1) : h_0.1 q = fun _ => 0 := by
  funext k
  show (if h_neg q.1 k = true then -(nI 5) else nI 0) = 0
  rw [if_neg]
  · rfl
  · intro h
    simp only [h_neg, Bool.or_eq_true, Bool.and_eq_true] at h
    rcases h with h | h
    · have := Nat.eq_of_beq_eq_true h.1
      omega
    · have := Nat.eq_of_beq_eq_true h.1
      omega
theorem h0_l {q : zR} (h23 : 23 ≤ q.1) (h51 : q.1 ≠ 51) : h_0.2.1 q = fun _ => 0 := by
  funext k
  show (if q.1 = 51 then w_keys k else lN (if q.1 = 12 ∧ k = 1 then 1 else 0)) = 0
  rw [if_neg h51, if_neg (by omega)]
  rfl
theorem z_at_all : ((List.range 182).all fun k => Nat.blt k 23 || (z_bds.getD k []).isEmpty || Nat.ble (z_at k) 5) = true := by decide +kernel
theorem z_at5 {q : zR} (hv : z_vl cx q) (h23 : 23 ≤ q.1) : z_at q.1 ≤ 5 := by
  have hb := z_vl_b hv (by omega)
  have h1 := List.all_eq_true.mp z_at_all q.1 (List.mem_range.mpr hb.1)
  simp only [Bool.or_eq_true] at h1
  rcases h1 with (h1 | h1) | h1
  · have := Nat.blt_eq.mp h1
    omega
  · have h2 := hv.1
    unfold z_bd at h2
    rw [List.isEmpty_iff.mp h1] at h2
    simp at h2
  · exact Nat.le_of_ble_eq_true h1
theorem z_k5 : ((List.range 182).all fun k => !(Nat.beq (z_at k) 5) || Nat.beq k 32) = true := by decide +kernel
theorem w_cell_a (had : w_ad cx) {q : zR} {a : Nat} {H : Heap} (hv : z_vl cx q) (h23 : 23 ≤ q.1) (h : va_at cx.1 zcl (a, den cx (z_ds q)) H) : va_at cx.1 zcl (a, z_cell cx h_0 q) H := by
  have ha := z_at5 hv h23
  have hb := z_vl_b hv (by omega)
  obtain ⟨-, t0, t1, t2, t3, t4, t5⟩ := z_at_fact (a := z_at q.1) rfl ha
  rw [z_cell_a h23]
  unfold z_ds at h
  rw [if_neg (by omega)] at h
  have hcase : z_at q.1 = 0 ∨ z_at q.1 = 1 ∨ z_at q.1 = 2 ∨ z_at q.1 = 3 ∨ z_at q.1 = 4 ∨ z_at q.1 = 5 := by omega
  rcases hcase with e | e | e | e | e | e
  · rw [z_ac0 e (Or.inl rfl), h0_i h23, t0 e]
    rw [e] at h
    have h : va_at cx.1 zcl (a, den cx (dA (z_t0 q.1) (z_ln q))) H := h
    rw [t0 e] at h
    exact h
  · rw [z_ac1 e, t1 e]
    rw [e] at h
    have h : va_at cx.1 zcl (a, den cx (if q.1 = 51 then (2, 21, 0, 1, 0, []) else dA 1 (z_ln q))) H := h
    by_cases h51 : q.1 = 51
    · rw [if_pos h51] at h
      have hk : h_0.2.1 q = w_keys := by
        funext k
        show (if q.1 = 51 then w_keys k else _) = _
        rw [if_pos h51]
      have hn : z_ln q = 21 := by
        obtain ⟨kd, i, j⟩ := q
        have h51 : kd = 51 := h51
        subst h51
        show z_lns.getD 51 0 = 21
        decide +kernel
      rw [hk, hn]
      exact h
    · rw [if_neg h51] at h
      rw [h0_l h23 h51]
      exact h
  · rw [z_ac0 e (Or.inr (Or.inl rfl)), h0_i h23, t2 e]
    rw [e] at h
    have h : va_at cx.1 zcl (a, den cx (dA (z_t0 q.1) (z_ln q))) H := h
    rw [t2 e] at h
    exact h
  · rw [z_ac0 e (Or.inr (Or.inr rfl)), h0_i h23, t3 e]
    rw [e] at h
    have h : va_at cx.1 zcl (a, den cx (dA (z_t0 q.1) (z_ln q))) H := h
    rw [t3 e] at h
    exact h
  · rw [z_ac4 e]
    rw [e] at h
    have h : va_at cx.1 zcl (a, den cx (dQ (z_t0 q.1) (z_ln q) (z_off (z_el q 0)) (z_off (z_el q 1) - z_off (z_el q 0)) (z_ln q))) H := h
    obtain ⟨t, ht⟩ : ∃ t, z_t0 q.1 = t + 4 := ⟨z_t0 q.1 - 4, by have := (t4 e).1; omega⟩
    rw [ht] at h ⊢
    have h : H[a]? = some (vp_cell (cx.2.2.1 (t + 4)) (z_ln q, .inr (.inr (.inr (.inr (b_rf cx (z_off (z_el q 0)) (z_off (z_el q 1) - z_off (z_el q 0)) (z_ln q))))))) := h
    show H[a]? = some (vp_cell (cx.2.2.1 (t + 4)) _)
    rw [h, vp_cell_q, vp_cell_q]
    refine congrArg some (arrV_congr (fun j hj => ?_))
    have he := z_vl_el hv e hj
    have h1 := List.all_eq_true.mp z_el_all q.1 (List.mem_range.mpr hb.1)
    rw [e] at h1
    have h2 := List.all_eq_true.mp (List.all_eq_true.mp (List.all_eq_true.mp h1 q.2.1 (List.mem_range.mpr hb.2)) q.2.2 (List.mem_range.mpr hv.1)) j (List.mem_range.mpr hj)
    have h3 := Nat.eq_of_beq_eq_true h2
    show va_rf (if j < z_ln q then some (b_a cx (z_off (z_el q 0) + (z_off (z_el q 1) - z_off (z_el q 0)) * j)) else none) = va_rf (some (cx.2.1 (z_el q j)))
    rw [if_pos hj, had _ he.2 (z_ne99 he.1)]
    exact congrArg (fun x => Value.ref (b_a cx x)) h3.symm
  · rw [z_ac5 e, t5 e]
    rw [e] at h
    have h1 := List.all_eq_true.mp z_k5 q.1 (List.mem_range.mpr hb.1)
    rw [e] at h1
    have hk : q.1 = 32 := Nat.eq_of_beq_eq_true h1
    have h : H[a]? = some (vp_cell (cx.2.2.1 5) (2, .inr (.inr (.inr (.inr (b_rf cx 20 484 2)))))) := h
    have hn : z_ln q = 2 := by
      obtain ⟨kd, i, j⟩ := q
      have hk : kd = 32 := hk
      subst hk
      show z_lns.getD 32 0 = 2
      decide +kernel
    show H[a]? = some (vp_cell (cx.2.2.1 5) _)
    rw [h, hn, vp_cell_q, vp_cell_q]
    refine congrArg some (arrV_congr (fun j hj => ?_))
    show va_rf (if j < 2 then some (b_a cx (20 + 484 * j)) else none) = va_rf ((h_r q j).map cx.2.1)
    rw [if_pos hj]
    unfold h_r
    rw [hk]
    rcases (show j = 0 ∨ j = 1 by omega) with e | e <;> subst e
    · show Value.ref (b_a cx (20 + 484 * 0)) = Value.ref (cx.2.1 (14, 0, 0))
      rw [had (14, 0, 0) (by decide) (by decide)]
      rfl
    · show Value.ref (b_a cx (20 + 484 * 1)) = Value.ref (cx.2.1 (14, 1, 0))
      rw [had (14, 1, 0) (by decide) (by decide)]
      rfl
/-- the fresh world out of the cells as they were made -/
theorem w_P (had : w_ad cx) (hon : z_on cx) {H : Heap} (hH : ∀ k, k < 1555 → ∀ x, w_all[k]? = some x → va_at cx.1 zcl (b_a cx k, den cx x) H) : z_P cx h_0 H := by
  refine ⟨fun q hv h10 => ?_, fun q k q' h => ?_⟩
  · have h1 := z_lu_ok hv h10
    have h2 := w_all_at h1.1
    rw [h1.2] at h2
    have h3 := hH _ h1.1 _ h2
    rw [← had q h10 (z_ne99 hv)] at h3
    rcases Nat.lt_or_ge q.1 23 with h | h
    · rw [w_cell_o had hv h10 h] at h3
      exact h3
    · exact w_cell_a had hv h h3
  · have h1 := h_r_ok h
    exact ⟨⟨h1.1, fun _ => hon⟩, h1.2.2.2⟩
theorem w_D (had : w_ad cx) : z_D cx := by
  refine ⟨fun q q' hv h10 hv' h10' e => ?_, fun q hv h10 => ?_⟩
  · rw [had q h10 (z_ne99 hv), had q' h10' (z_ne99 hv')] at e
    have e1 : z_off q = z_off q' := by unfold b_a at e; omega
    have h1 := (z_lu_ok hv h10).2
    rw [e1, (z_lu_ok hv' h10').2] at h1
    exact h1.symm
  · rw [had q h10 (z_ne99 hv)]
    exact Nat.le_add_right _ _
/-- what the two constructors leave -/
theorem w_fin {g0 : Nat → va_E} {X : va_E} {j : Nat} {x : dE} (hj : w_all[j]? = some x) : b_up (b_cat 1490 (b_up (b_up (b_cat 1 g0 ((T_JobText 1).map (den cx))) 0 (den cx (dO 11 (F_JobText 1)))) 1489 X) ((T_Model 1490).map (den cx))) 1489 (den cx (dO 12 (F_Model 1490))) j = den cx x := by
  have gd : ∀ {l : List dE} {i : Nat} {y : dE}, l[i]? = some y → (l.map (den cx)).getD i (.inr (0, [])) = den cx y := fun {l i y} h => by simp [List.getD, List.getElem?_map, h]
  unfold w_all at hj
  rcases Nat.lt_trichotomy j 1489 with h | h | h
  · rw [b_up_n (by omega), b_cat_lo (by omega), b_up_n (by omega)]
    match j, hj, h with
    | 0, hj, _ =>
      rw [b_up_s]
      cases hj
      rfl
    | i + 1, hj, h =>
      rw [b_up_n (by omega), show i + 1 = 1 + i by omega, b_cat_hi]
      rw [List.getElem?_cons_succ, List.getElem?_append_left (by rw [T_JobText_len]; omega)] at hj
      exact gd hj
  · subst h
    rw [b_up_s]
    rw [List.getElem?_cons_succ, List.getElem?_append_right (by rw [T_JobText_len]; decide), T_JobText_len] at hj
    cases hj
    rfl
  · obtain ⟨i, rfl⟩ : ∃ i, j = 1490 + i := ⟨j - 1490, by omega⟩
    rw [b_up_n (by omega), b_cat_hi]
    rw [show 1490 + i = (1489 + i) + 1 by omega, List.getElem?_cons_succ, List.getElem?_append_right (by rw [T_JobText_len]; omega), T_JobText_len, show 1489 + i - 1488 = i + 1 by omega, List.getElem?_cons_succ] at hj
    exact gd hj
end FW
/-- a fresh pair of objects -/
theorem fr_0 : fr h_0 := by
  have no : ∀ {P : Nat → Prop} (k : Nat), k < ([] : List Int32).length → P k := fun k hk => absurd hk (Nat.not_lt_zero k)
  have nx : ∀ x ∈ ([] : List Int32), tb x := fun x hx => by cases hx
  have hb : ∀ i j : Nat, bt h_0 i j [] := fun i j => ⟨rfl, Nat.zero_le _, fun k hk => absurd hk (Nat.not_lt_zero k)⟩
  exact ⟨⟨⟨hb 1 0, ⟨rfl, fun k hk => absurd hk (Nat.not_lt_zero k)⟩, nx⟩, fun f hf => ⟨hb 0 f, ⟨rfl, fun k hk => absurd hk (Nat.not_lt_zero k)⟩, nx⟩, hb 2 0, ⟨rfl, fun k hk => absurd hk (Nat.not_lt_zero k)⟩, nx⟩, ⟨rfl, rfl⟩, ⟨rfl, rfl⟩, ⟨rfl, rfl, rfl, rfl⟩, ⟨rfl, rfl, rfl⟩, ⟨rfl, rfl, rfl⟩, fun c hc => rfl, fun b hb => rfl⟩
