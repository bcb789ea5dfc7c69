/-! ===== cells of the world ===== -/
theorem z_P.one {cx : zX} {h : zH} {H : Heap} {q : zR} (hP : z_P cx h H) (hv : z_vl cx q) (h10 : 10 ≤ q.1) : va_P cx.1 zcl [(cx.2.1 q, z_cell cx h q)] H := by
  intro k x hk
  match k, hk with
  | 0, hk => cases hk; exact hP.1 q hv h10
  | k + 1, hk => simp at hk
theorem z_cell_o {cx : zX} {h : zH} {q : zR} (hq : q.1 < 23) : z_cell cx h q = .inr (q.1 - 10, (List.range (z_nf (q.1 - 10))).map (z_fv cx h q)) := if_pos hq
theorem z_cell_a {cx : zX} {h : zH} {q : zR} (hq : 23 ≤ q.1) : z_cell cx h q = .inl (cx.2.2.1 (z_t0 q.1), z_ac cx h q) := if_neg (by omega)
theorem z_cv_r {cx : zX} {q : zR} (h : q.1 ≠ 3) : z_cv cx (.inr (.inr q)) = .ref (cx.2.1 q) := if_neg h
theorem z_tynm {c : Nat} {r : vw_C} (h : zcl[c]? = some r) : ∃ ty0 : Nat → FieldType, (∀ k, k < r.2.2 → parseFieldDescriptor (r.2.1 k).2.2.1 = some (ty0 k)) ∧ ∀ a, a < r.2.2 → ∀ b, b < r.2.2 → a ≠ b → (r.2.1 a).2.1 ≠ (r.2.1 b).2.1 := by
  match c, h with
  | 0, h => cases h; exact ⟨tyX0, tyX0_ok, nmX0⟩
  | 1, h => cases h; exact ⟨tyX1, tyX1_ok, nmX1⟩
  | 2, h => cases h; exact ⟨tyX2, tyX2_ok, nmX2⟩
  | 3, h => cases h; exact ⟨tyX3, tyX3_ok, nmX3⟩
  | 4, h => cases h; exact ⟨tyX4, tyX4_ok, nmX4⟩
  | 5, h => cases h; exact ⟨tyX5, tyX5_ok, nmX5⟩
  | 6, h => cases h; exact ⟨tyX6, tyX6_ok, nmX6⟩
  | 7, h => cases h; exact ⟨tyX7, tyX7_ok, nmX7⟩
  | 8, h => cases h; exact ⟨tyX8, tyX8_ok, nmX8⟩
  | 9, h => cases h; exact ⟨tyX9, tyX9_ok, nmX9⟩
  | 10, h => cases h; exact ⟨tyX10, tyX10_ok, nmX10⟩
  | 11, h => cases h; exact ⟨tyX11, tyX11_ok, nmX11⟩
  | 12, h => cases h; exact ⟨tyX12, tyX12_ok, nmX12⟩
  | n + 13, h => simp [zcl] at h
theorem z_clen {c : Nat} (h : c < 13) : ∃ r, zcl[c]? = some r ∧ r.2.2 = z_nf c := by
  have h1 := List.all_eq_true.mp z_chkT_ok c (List.mem_range.mpr h)
  unfold z_chkT at h1
  cases hc : zcl[c]? with
  | none => rw [hc] at h1; cases h1
  | some r =>
    rw [hc] at h1
    obtain ⟨C, T, N⟩ := r
    simp only [Bool.and_eq_true] at h1
    exact ⟨_, rfl, Nat.eq_of_beq_eq_true h1.1⟩
/-- a field's row: its link, its place -/
def z_FR (o idx kd k : Nat) : Prop := ∃ (C : String) (T : u_T) (N : Nat), 10 ≤ kd ∧ kd < 23 ∧ zcl[kd - 10]? = some (C, T, N) ∧ N = z_nf (kd - 10) ∧ k < N ∧ Cond.fieldLink (z_cn o) idx (T k).1 (T k).2.1 (T k).2.2.1 ∈ zTG
theorem z_fr_of {o : Nat} {q : Nat × Nat × Nat} (hq : q ∈ z_fls.getD o []) (h0 : q.2.1 / 1024 ≠ 0) : z_FR o q.1 (q.2.1 / 1024) (q.2.1 / 8 % 128) ∧ q.2.1 % 8 = z_tc (q.2.1 / 1024) (q.2.1 / 8 % 128) := by
  have h := z_row z_lens.1 z_chkF_ok hq
  unfold z_chkF at h
  rw [if_neg h0] at h
  cases hc : zcl[q.2.1 / 1024 - 10]? with
  | none => rw [hc] at h; cases h
  | some r =>
    rw [hc] at h
    obtain ⟨C, T, N⟩ := r
    simp only [Bool.and_eq_true, decide_eq_true_eq] at h
    obtain ⟨⟨⟨h1, h2⟩, h3⟩, h4⟩ := h
    have hl := (List.getElem?_eq_some_iff.mp hc).1
    have hl2 : q.2.1 / 1024 - 10 < 13 := hl
    obtain ⟨r', hr', hn⟩ := z_clen hl2
    rw [hc] at hr'
    cases hr'
    exact ⟨⟨C, T, N, h1, by omega, hc, hn, h2, zTG_of h3 rfl⟩, h4⟩
theorem z_vl_fr {cx : zX} {q : zR} {k : Nat} (hv : z_vl cx q) (h10 : 10 ≤ q.1) (h23 : q.1 < 23) (hk : k < z_nf (q.1 - 10)) (ht : z_tc q.1 k = 2) : z_vl cx (z_fr q k) ∧ 10 ≤ (z_fr q k).1 := by
  obtain ⟨kd, i, j⟩ := q
  have hv' : j < z_bd kd i := hv.1
  have hi : i < 10 := by
    rcases Nat.lt_or_ge i 10 with h | h
    · exact h
    · have h1 := List.all_eq_true.mp z_chkB_ok kd (List.mem_range.mpr (by simp at h23; omega))
      simp only [Bool.or_eq_true] at h1
      rcases h1 with h1 | h1
      · have := Nat.le_of_ble_eq_true h1
        simp at h10; omega
      · have h2 := Nat.le_of_ble_eq_true h1
        unfold z_bd at hv'
        rw [List.getD_eq_getElem?_getD (l := z_bds.getD kd []), List.getElem?_eq_none (by omega)] at hv'
        simp at hv'
  have h1 := List.all_eq_true.mp z_chkV_ok (kd - 10) (List.mem_range.mpr (by simp at h23; omega))
  have h2 := List.all_eq_true.mp h1 k (List.mem_range.mpr hk)
  have e : kd - 10 + 10 = kd := by simp at h10; omega
  rw [e] at h2
  have ht' : z_tc kd k = 2 := ht
  simp only [ht', beq_self_eq_true, Bool.not_true, Bool.false_or] at h2
  have h3 := List.all_eq_true.mp h2 i (List.mem_range.mpr hi)
  have h4 := List.all_eq_true.mp h3 j (List.mem_range.mpr hv')
  simp only [Bool.and_eq_true] at h4
  exact ⟨⟨Nat.blt_eq.mp h4.1, fun _ => hv.2 h10⟩, Nat.le_of_ble_eq_true h4.2⟩
theorem z_at_lt {k : Nat} (h : z_at k ≠ 99) : k < 182 := by
  rcases Nat.lt_or_ge k 182 with h1 | h1
  · exact h1
  · refine absurd ?_ h
    unfold z_at
    rw [List.getD_eq_getElem?_getD, List.getElem?_eq_none (by rw [z_bds_len.2.1]; omega)]
    rfl
theorem z_vl_el {cx : zX} {q : zR} {n : Nat} (hv : z_vl cx q) (ht : z_at q.1 = 4) (hn : n < z_ln q) : z_vl cx (z_el q n) ∧ 10 ≤ (z_el q n).1 := by
  obtain ⟨kd, i, j⟩ := q
  have hv' : j < z_bd kd i := hv.1
  have ht' : z_at kd = 4 := ht
  have hk : kd < 182 := z_at_lt (by rw [ht']; decide)
  have ha := List.all_eq_true.mp z_chkA_ok kd (List.mem_range.mpr hk)
  rw [ht'] at ha
  simp only [Bool.and_eq_true] at ha
  have h23 := Nat.le_of_ble_eq_true ha.2
  have hi : i < 10 := by
    rcases Nat.lt_or_ge i 10 with h | h
    · exact h
    · have h1 := List.all_eq_true.mp z_chkB_ok kd (List.mem_range.mpr hk)
      simp only [Bool.or_eq_true] at h1
      rcases h1 with h1 | h1
      · have := Nat.le_of_ble_eq_true h1
        omega
      · have h2 := Nat.le_of_ble_eq_true h1
        unfold z_bd at hv'
        rw [List.getD_eq_getElem?_getD (l := z_bds.getD kd []), List.getElem?_eq_none (by omega)] at hv'
        simp at hv'
  have h1 := List.all_eq_true.mp z_chkE_ok kd (List.mem_range.mpr hk)
  simp only [ht', beq_self_eq_true, Bool.not_true, Bool.false_or] at h1
  have h3 := List.all_eq_true.mp h1 i (List.mem_range.mpr hi)
  have h4 := List.all_eq_true.mp h3 j (List.mem_range.mpr hv')
  have h5 := List.all_eq_true.mp h4 n (List.mem_range.mpr hn)
  simp only [Bool.and_eq_true] at h5
  exact ⟨⟨Nat.blt_eq.mp h5.1, fun _ => hv.2 (Nat.le_trans (by decide) h23)⟩, Nat.le_of_ble_eq_true h5.2⟩
/-- a row of an array of a type -/
theorem z_at_fact {k a : Nat} (h : z_at k = a) (ha : a ≤ 5) : 23 ≤ k ∧ (a = 0 → z_t0 k = 0) ∧ (a = 1 → z_t0 k = 1) ∧ (a = 2 → z_t0 k = 2) ∧ (a = 3 → z_t0 k = 3) ∧ (a = 4 → 4 ≤ z_t0 k ∧ z_t0 k ≤ 9) ∧ (a = 5 → z_t0 k = 5) := by
  have hk : k < 182 := z_at_lt (by rw [h]; omega)
  have h1 := List.all_eq_true.mp z_chkA_ok k (List.mem_range.mpr hk)
  subst h
  match hz : z_at k, h1, ha with
  | 0, h1, _ =>
    simp only [Bool.and_eq_true] at h1
    exact ⟨Nat.le_of_ble_eq_true h1.2, fun _ => Nat.eq_of_beq_eq_true h1.1, fun e => by omega, fun e => by omega, fun e => by omega, fun e => by omega, fun e => by omega⟩
  | 1, h1, _ =>
    simp only [Bool.and_eq_true] at h1
    exact ⟨Nat.le_of_ble_eq_true h1.2, fun e => by omega, fun _ => Nat.eq_of_beq_eq_true h1.1, fun e => by omega, fun e => by omega, fun e => by omega, fun e => by omega⟩
  | 2, h1, _ =>
    simp only [Bool.and_eq_true] at h1
    exact ⟨Nat.le_of_ble_eq_true h1.2, fun e => by omega, fun e => by omega, fun _ => Nat.eq_of_beq_eq_true h1.1, fun e => by omega, fun e => by omega, fun e => by omega⟩
  | 3, h1, _ =>
    simp only [Bool.and_eq_true] at h1
    exact ⟨Nat.le_of_ble_eq_true h1.2, fun e => by omega, fun e => by omega, fun e => by omega, fun _ => Nat.eq_of_beq_eq_true h1.1, fun e => by omega, fun e => by omega⟩
  | 4, h1, _ =>
    simp only [Bool.and_eq_true] at h1
    exact ⟨Nat.le_of_ble_eq_true h1.2, fun e => by omega, fun e => by omega, fun e => by omega, fun e => by omega, fun _ => ⟨Nat.le_of_ble_eq_true h1.1.1, Nat.le_of_ble_eq_true h1.1.2⟩, fun e => by omega⟩
  | 5, h1, _ =>
    simp only [Bool.and_eq_true] at h1
    exact ⟨Nat.le_of_ble_eq_true h1.2, fun e => by omega, fun e => by omega, fun e => by omega, fun e => by omega, fun e => by omega, fun _ => Nat.eq_of_beq_eq_true h1.1⟩
/-! ===== a cell changes ===== -/
theorem z_P.upd {cx : zX} {h h1 : zH} {H H1 : Heap} {q : zR} (hP : z_P cx h H) (hD : z_D cx) (hv : z_vl cx q) (h10 : 10 ≤ q.1) (hq : va_at cx.1 zcl (cx.2.1 q, z_cell cx h1 q) H1) (oq : ∀ a : Nat, a ≠ cx.2.1 q → H1[a]? = H[a]?) (hc : ∀ q' : zR, q' ≠ q → z_cell cx h1 q' = z_cell cx h q') (hr : ∀ (q' : zR) (k : Nat) (q'' : zR), h1.2.2 q' k = some q'' → z_vl cx q'' ∧ q''.1 ≠ 3) : z_P cx h1 H1 := by
  refine ⟨fun q' hv' h10' => ?_, hr⟩
  by_cases e : q' = q
  · rw [e]; exact hq
  · rw [hc q' e]
    exact (hP.1 q' hv' h10').kept (oq _ (fun z => e (hD.1 q' q hv' h10' hv h10 z)))
theorem z_uI_ne {h : zH} {q q' : zR} {k : Nat} {x : Int32} (hq : q' ≠ q) : (z_uI h q k x).1 q' = h.1 q' := by
  funext j
  show (if q' = q ∧ j = k then x else h.1 q' j) = h.1 q' j
  rw [if_neg (fun e => hq e.1)]
theorem z_uL_ne {h : zH} {q q' : zR} {k : Nat} {x : Int64} (hq : q' ≠ q) : (z_uL h q k x).2.1 q' = h.2.1 q' := by
  funext j
  show (if q' = q ∧ j = k then x else h.2.1 q' j) = h.2.1 q' j
  rw [if_neg (fun e => hq e.1)]
theorem z_uR_ne {h : zH} {q q' : zR} {k : Nat} {x : zR} (hq : q' ≠ q) : (z_uR h q k x).2.2 q' = h.2.2 q' := by
  funext j
  show (if q' = q ∧ j = k then some x else h.2.2 q' j) = h.2.2 q' j
  rw [if_neg (fun e => hq e.1)]
theorem z_cell_eq {cx : zX} {h h1 : zH} {q : zR} (e1 : h1.1 q = h.1 q) (e2 : h1.2.1 q = h.2.1 q) (e3 : h1.2.2 q = h.2.2 q) : z_cell cx h1 q = z_cell cx h q := by
  have e4 : z_fv cx h1 q = z_fv cx h q := by
    funext k
    unfold z_fv
    rw [e1, e2, e3]
  unfold z_cell z_ac
  rw [e1, e2, e3, e4]
theorem z_cell_uI {cx : zX} {h : zH} {q q' : zR} {k : Nat} {x : Int32} (hq : q' ≠ q) : z_cell cx (z_uI h q k x) q' = z_cell cx h q' := z_cell_eq (z_uI_ne hq) rfl rfl
theorem z_cell_uL {cx : zX} {h : zH} {q q' : zR} {k : Nat} {x : Int64} (hq : q' ≠ q) : z_cell cx (z_uL h q k x) q' = z_cell cx h q' := z_cell_eq rfl (z_uL_ne hq) rfl
theorem z_cell_uR {cx : zX} {h : zH} {q q' : zR} {k : Nat} {x : zR} (hq : q' ≠ q) : z_cell cx (z_uR h q k x) q' = z_cell cx h q' := z_cell_eq rfl rfl (z_uR_ne hq)
theorem z_vpV {n k : Nat} {f : Nat → Value} (hk : k < n) : vp_V ((List.range n).map f) k = f k := by
  unfold vp_V
  rw [List.getD_eq_getElem?_getD, List.getElem?_map, List.getElem?_range hk]
  rfl
section ZST
variable {cx : zX} {y : Nat} {p : Program} {l : Launch} {e : Env} {s : State} {m : MethodId} {args : Array Value} {below : List Frame} {meth : Method} {c : Code} {H : Heap} {locs : List Loc} {ls : Array Slot} {pc : Nat} {R : Room} {cells slots : Nat} {Q : State → Prop} {rest : List Value} {h : zH}
/-- getfield -/
theorem z_Wget (hE : z_E cx y p s m args meth c H locs) (ho : z_cn (z_m y).2.2.2.2.1.1 = (z_m y).1.cls) (hP : z_P cx h H) {q : zR} (hv : z_vl cx q) {idx k : Nat} (hF : z_FR (z_m y).2.2.2.2.1.1 idx q.1 k) (hd : decode (z_m y).2.1 pc = .ok (.getfield idx, 3))
    (kk : W p l e R s m args below meth c H locs cells slots Q (F0 m (pc + 3) ls (z_fv cx h q k :: rest))) : W p l e R s m args below meth c H locs cells slots Q (F0 m pc ls (.ref (cx.2.1 q) :: rest)) := by
  obtain ⟨hx, hb, hr, hml, hown, hts, hlk, hK, hC, hD, hS⟩ := hE
  obtain ⟨C, T, N, h10, h23, hc, hN, hk, hin⟩ := hF
  have h1 := hP.one hv h10
  rw [z_cell_o h23] at h1
  refine va_get (C := C) (T := T) (N := N) (ref := (T k).1) (index := idx) hx hb hts (zcl_words hc) (by rw [ho]; exact hown) hK h1 0 rfl hc k hk (hts _ hin) (fun x hx => hx) (v := z_fv cx h q k) ?_ hd kk
  rw [List.getElem?_map, List.getElem?_range (by rw [← hN]; exact hk)]
  rfl
/-- putfield -/
theorem z_Wput (hE : z_E cx y p s m args meth c H locs) (ho : z_cn (z_m y).2.2.2.2.1.1 = (z_m y).1.cls) (hP : z_P cx h H) {q : zR} (hv : z_vl cx q) {idx k : Nat} (hF : z_FR (z_m y).2.2.2.2.1.1 idx q.1 k) (hd : decode (z_m y).2.1 pc = .ok (.putfield idx, 3))
    {v : Value} {ty : FieldType} {h1 : zH} (hty : ∀ (C : String) (T : u_T) (N : Nat), zcl[q.1 - 10]? = some (C, T, N) → parseFieldDescriptor (T k).2.2.1 = some ty ∧ (T k).2.2.2 = false) (hn : narrow ty v = v) (hfit : fits ty v = true)
    (hv1 : z_fv cx h1 q k = v) (hv2 : ∀ j, j ≠ k → z_fv cx h1 q j = z_fv cx h q j) (hc1 : ∀ q' : zR, q' ≠ q → z_cell cx h1 q' = z_cell cx h q') (hr1 : ∀ (q' : zR) (k : Nat) (q'' : zR), h1.2.2 q' k = some q'' → z_vl cx q'' ∧ q''.1 ≠ 3)
    (kk : ∀ (H1 : Heap) (locs1 : List Loc), z_P cx h1 H1 → va_S (z_A cx) s.heap H1 locs1 → W p l e R s m args below meth c H1 locs1 cells slots Q (F0 m (pc + 3) ls rest)) : W p l e R s m args below meth c H locs cells slots Q (F0 m pc ls (v :: .ref (cx.2.1 q) :: rest)) := by
  obtain ⟨hx, hb, hr, hml, hown, hts, hlk, hK, hC, hD, hS⟩ := hE
  obtain ⟨C, T, N, h10, h23, hc, hN, hk, hin⟩ := hF
  obtain ⟨hd1, hfin⟩ := hty C T N hc
  obtain ⟨ty0, hty0, hnm0⟩ := z_tynm hc
  have hap := va_apart (own := z_cn (z_m y).2.2.2.2.1.1) hts (zcl_words hc) ty0 hty0 hnm0 hK hc
  obtain ⟨r, g1, cell, q1, q2, q3, q4⟩ := hP.one hv h10 0 _ (by rw [z_cell_o h23]; rfl)
  have hr : r = (C, T, N) := Option.some.inj (g1.symm.trans hc)
  subst hr
  obtain ⟨hSl, hfc, kC, hkC, hkind⟩ := hK.1 _ _ hc
  obtain ⟨cf, kf, fi, f, hi, hsl⟩ := hSl k hk
  have hlay := hts _ (zcl_words hc _ (u_in_lay hk))
  unfold u_lay at hlay
  rw [if_neg (by rw [hfin]; decide)] at hlay
  have hst := (u_facts hfc hkC (u_lays hts (zcl_words hc) hk) hi).1
  have h6 := u_store hfc hkC hkind hlay hi hd1 hn hfit
  refine W.putK hx hb (f := f) ⟨by rw [ho]; exact hown, hts _ hin, ⟨_, _, _, hi⟩, hst⟩ (by rw [q2]; exact h6) q1 q3 (by rw [hsl]; exact k2_hasslot (q4 k hk)) rfl rfl hd fun H' e1 e2 e3 => ?_
  rw [hsl] at e1 ⊢
  refine kk H' _ (hP.upd hD hv h10 ?_ e3 hc1 hr1) (hS.put e2 e3 (hD.2 q hv h10))
  rw [z_cell_o h23]
  refine ⟨_, hc, t_OB.to (V := updV (vp_V ((List.range (z_nf (q.1 - 10))).map (z_fv cx h q))) k v) ⟨_, e1, q2, q3, t_set q4 hap hk v⟩ (fun j hj => ?_)⟩
  have hj' : j < z_nf (q.1 - 10) := by rw [← hN]; exact hj
  show updV _ k v j = vp_V ((List.range (z_nf (q.1 - 10))).map (z_fv cx h1 q)) j
  rw [z_vpV hj']
  by_cases hjk : j = k
  · subst hjk
    simp [updV, hv1]
  · rw [hv2 j hjk]
    simp [updV, hjk, z_vpV hj']
end ZST
