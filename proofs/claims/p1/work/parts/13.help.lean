theorem z_tsw_at {J : Int → Prop} {x : Int32} : ∀ {l : List Int} {lo : Int} {k : Nat} {t : Int}, l[k]? = some t → z_tsw J x lo l → x = z_lit (lo + (k : Int)) → J t
  | [], lo, k, t, h, _, _ => by simp at h
  | a :: l, lo, 0, t, h, hw, hx => by
    simp at h
    subst h
    exact hw.1 (by simpa using hx)
  | a :: l, lo, k + 1, t, h, hw, hx => by
    refine z_tsw_at (l := l) (lo := lo + 1) (k := k) (by simpa using h) hw.2 ?_
    rw [hx]
    congr 1
    omega
theorem z_i32 {x : Int32} {k : Int} (h1 : -2147483648 ≤ k) (h2 : k < 2147483648) : x = z_lit k ↔ x.toInt = k := by
  rw [z_lit_eq]
  constructor
  · intro h
    rw [h, Int32.toInt_ofInt_of_le (by simpa using h1) (by simpa using h2)]
  · intro h
    rw [← h, Int32.ofInt_toInt]
theorem z_lsw_at {J : Int → Prop} {x : Int32} {pc : Nat} {d : Int} : ∀ (l : List (Int × Int)), 0 ≤ (pc : Int) + d → (l.map (fun t => (t.1, (pc : Int) + t.2))).all (fun q => decide (0 ≤ q.2) && decide (-2147483648 ≤ q.1) && decide (q.1 < 2147483648)) = true →
    z_lsw J x (l.map (fun t => (t.1, (pc : Int) + t.2))) → (z_lno x (l.map (fun t => (t.1, (pc : Int) + t.2))) → J ((pc : Int) + d)) → 0 ≤ (pc : Int) + Op.lookupswitch.offset l d x.toInt ∧ J ((pc : Int) + Op.lookupswitch.offset l d x.toInt)
  | [], h0, _, _, hw2 => ⟨h0, hw2 trivial⟩
  | (a, o) :: l, h0, ha, hw, hw2 => by
    simp only [List.map_cons, List.all_cons, Bool.and_eq_true, decide_eq_true_eq] at ha
    obtain ⟨⟨⟨h1, h2⟩, h3⟩, h4⟩ := ha
    by_cases hx : x.toInt = a
    · have e : Op.lookupswitch.offset ((a, o) :: l) d x.toInt = o := by simp [Op.lookupswitch.offset, hx]
      rw [e]
      exact ⟨h1, hw.1 ((z_i32 h2 h3).mpr hx)⟩
    · have hxa : ¬ x = z_lit a := fun z => hx ((z_i32 h2 h3).mp z)
      have e : Op.lookupswitch.offset ((a, o) :: l) d x.toInt = Op.lookupswitch.offset l d x.toInt := by
        simp only [Op.lookupswitch.offset]
        simp [hx, Ne.symm hx, eq_comm]
      rw [e]
      exact z_lsw_at l h0 h4 hw.2 (fun hn => hw2 ⟨hxa, hn⟩)
theorem z_srt {pc : Nat} (l : List (Int × Int)) (h : ((l.map (fun t => (t.1, (pc : Int) + t.2))).zip ((l.map (fun t => (t.1, (pc : Int) + t.2))).drop 1)).all (fun (a, next) => a.1 < next.1) = true) : (l.zip (l.drop 1)).all (fun (a, next) => a.1 < next.1) = true := by
  rw [← List.map_drop, List.zip_map, List.all_map] at h
  exact h
theorem z_vl_str' : ∀ i, i < 26 → 0 < z_bd 0 i ∧ 0 < z_bd 1 i := by decide +kernel
theorem z_vl_str {cx : zX} {i : Nat} (h : i < 26) : z_vl cx (0, i, 0) := ⟨(z_vl_str' i h).1, fun z => absurd (show 10 ≤ 0 from z) (by decide)⟩
theorem z_vl_strb {cx : zX} {i : Nat} (h : i < 26) : z_vl cx (1, i, 0) := ⟨(z_vl_str' i h).2, fun z => absurd (show 10 ≤ 1 from z) (by decide)⟩
theorem z_bd_row {k n : Nat} (hl : (z_bds.getD k []).length = n) {i j : Nat} (h : j < z_bd k i) : i < n := by
  rcases Nat.lt_or_ge i n with h1 | h1
  · exact h1
  · unfold z_bd at h
    rw [List.getD_eq_getElem?_getD (l := z_bds.getD k []), List.getElem?_eq_none (by omega)] at h
    simp at h
theorem z_bd_small : (∀ i, i < 26 → z_bd 0 i = 1) ∧ (∀ i, i < 26 → z_bd 1 i = 1) ∧ ∀ i, i < 2 → z_bd 2 i = 1 := by decide +kernel
theorem z_vl_0 {cx : zX} {q : zR} (hv : z_vl cx q) (h : q.1 = 0) : ∃ i, i < 26 ∧ q = (0, i, 0) := by
  obtain ⟨k, i, j⟩ := q
  simp at h
  subst h
  have hv' : j < z_bd 0 i := hv.1
  have hi := z_bd_row (k := 0) (n := 26) (by decide +kernel) hv'
  rw [z_bd_small.1 i hi] at hv'
  exact ⟨i, hi, by rw [show j = 0 by omega]⟩
theorem z_vl_1 {cx : zX} {q : zR} (hv : z_vl cx q) (h : q.1 = 1) : ∃ i, i < 26 ∧ q = (1, i, 0) := by
  obtain ⟨k, i, j⟩ := q
  simp at h
  subst h
  have hv' : j < z_bd 1 i := hv.1
  have hi := z_bd_row (k := 1) (n := 26) (by decide +kernel) hv'
  rw [z_bd_small.2.1 i hi] at hv'
  exact ⟨i, hi, by rw [show j = 0 by omega]⟩
theorem z_vl_2 {cx : zX} {q : zR} (hv : z_vl cx q) (h : q.1 = 2) : ∃ i, i < 2 ∧ q = (2, i, 0) := by
  obtain ⟨k, i, j⟩ := q
  simp at h
  subst h
  have hv' : j < z_bd 2 i := hv.1
  have hi := z_bd_row (k := 2) (n := 2) (by decide +kernel) hv'
  rw [z_bd_small.2.2 i hi] at hv'
  exact ⟨i, hi, by rw [show j = 0 by omega]⟩
theorem z_fv_i {cx : zX} {h : zH} {q : zR} {k : Nat} (ht : z_tc q.1 k = 0 ∨ z_tc q.1 k = 5) : z_fv cx h q k = .int (h.1 q k) := by
  unfold z_fv
  rcases ht with ht | ht <;> (rw [ht]; rfl)
theorem z_fv_l {cx : zX} {h : zH} {q : zR} {k : Nat} (ht : z_tc q.1 k = 1) : z_fv cx h q k = .long (h.2.1 q k) := by
  unfold z_fv
  rw [ht]
  rfl
theorem z_fv_f {cx : zX} {h : zH} {q : zR} {k : Nat} (ht : z_tc q.1 k = 2) : z_fv cx h q k = .ref (cx.2.1 (z_fr q k)) := by
  unfold z_fv
  rw [ht]
  rfl
theorem z_fv_m {cx : zX} {h : zH} {q : zR} {k : Nat} (ht : z_tc q.1 k = 3) : z_fv cx h q k = va_rf ((h.2.2 q k).map cx.2.1) := by
  unfold z_fv
  rw [ht]
  rfl
theorem z_fv_uI {cx : zX} {h : zH} {q : zR} {k j : Nat} {x : Int32} (hj : j ≠ k) : z_fv cx (z_uI h q k x) q j = z_fv cx h q j := by
  have e : (z_uI h q k x).1 q j = h.1 q j := by
    show (if q = q ∧ j = k then x else h.1 q j) = h.1 q j
    rw [if_neg (fun z => hj z.2)]
  unfold z_fv
  rw [e]
  rfl
theorem z_fv_uL {cx : zX} {h : zH} {q : zR} {k j : Nat} {x : Int64} (hj : j ≠ k) : z_fv cx (z_uL h q k x) q j = z_fv cx h q j := by
  have e : (z_uL h q k x).2.1 q j = h.2.1 q j := by
    show (if q = q ∧ j = k then x else h.2.1 q j) = h.2.1 q j
    rw [if_neg (fun z => hj z.2)]
  unfold z_fv
  rw [e]
  rfl
theorem z_fv_uR {cx : zX} {h : zH} {q : zR} {k j : Nat} {x : zR} (hj : j ≠ k) : z_fv cx (z_uR h q k x) q j = z_fv cx h q j := by
  have e : (z_uR h q k x).2.2 q j = h.2.2 q j := by
    show (if q = q ∧ j = k then some x else h.2.2 q j) = h.2.2 q j
    rw [if_neg (fun z => hj z.2)]
  unfold z_fv
  rw [e]
  rfl
theorem z_mk_ne {kd k : Nat} : z_mk kd k ≠ 3 := by
  unfold z_mk
  split
  · split <;> decide
  · decide
/-- of a field by its code -/
theorem z_tcx {c k : Nat} (hc : c < 13) (hk : k < z_nf c) : ∃ (C : String) (T : u_T) (N : Nat), zcl[c]? = some (C, T, N) ∧
    (z_tc (c + 10) k = 2 ∨ (z_tc (c + 10) k = 3 ∧ (T k).2.2.2 = false ∧ ∃ n, parseFieldDescriptor (T k).2.2.1 = some (.object n)) ∨ ((z_tc (c + 10) k = 0 ∨ z_tc (c + 10) k = 5 ∨ z_tc (c + 10) k = 1) ∧ (T k).2.2.2 = false ∧ parseFieldDescriptor (T k).2.2.1 = some (z_ft (z_tc (c + 10) k)))) := by
  have h1 := List.all_eq_true.mp z_chkT_ok c (List.mem_range.mpr hc)
  unfold z_chkT at h1
  cases hz : zcl[c]? with
  | none => rw [hz] at h1; cases h1
  | some r =>
    rw [hz] at h1
    obtain ⟨C, T, N⟩ := r
    simp only [Bool.and_eq_true] at h1
    have hN := Nat.eq_of_beq_eq_true h1.1
    have h2 := List.all_eq_true.mp h1.2 k (List.mem_range.mpr (by omega))
    refine ⟨C, T, N, rfl, ?_⟩
    split at h2
    · rename_i e; exact Or.inl e
    · rename_i e
      simp only [Bool.and_eq_true, Bool.not_eq_true'] at h2
      refine Or.inr (Or.inl ⟨e, h2.1, ?_⟩)
      have h3 := h2.2
      split at h3
      · rename_i n e2; exact ⟨n, e2⟩
      · cases h3
    · cases h2
    · simp only [Bool.and_eq_true, Bool.not_eq_true', decide_eq_true_eq, Bool.or_eq_true, beq_iff_eq] at h2
      refine Or.inr (Or.inr ⟨?_, h2.1.1, h2.1.2⟩)
      rcases h2.2 with (h3 | h3) | h3
      · exact Or.inl h3
      · exact Or.inr (Or.inl h3)
      · exact Or.inr (Or.inr h3)
theorem z_tc_ne {q : zR} {k : Nat} (h10 : 10 ≤ q.1) (h23 : q.1 < 23) (hk : k < z_nf (q.1 - 10)) : z_tc q.1 k ≠ 4 ∧ z_tc q.1 k ≠ 6 := by
  obtain ⟨C, T, N, _, h⟩ := z_tcx (c := q.1 - 10) (by omega) hk
  rw [show q.1 - 10 + 10 = q.1 by omega] at h
  rcases h with h | ⟨h, _⟩ | ⟨h | h | h, _⟩ <;> (rw [h]; decide)
theorem z_ty_of {c k t : Nat} {C : String} {T : u_T} {N : Nat} (hc : zcl[c]? = some (C, T, N)) (ht : z_tc (c + 10) k = t) (hk : k < z_nf c) (h0 : t = 0 ∨ t = 5 ∨ t = 1) : parseFieldDescriptor (T k).2.2.1 = some (z_ft t) ∧ (T k).2.2.2 = false := by
  have hl : c < 13 := (List.getElem?_eq_some_iff.mp hc).1
  obtain ⟨C', T', N', hc', h⟩ := z_tcx hl hk
  rw [hc] at hc'
  cases hc'
  rw [ht] at h
  rcases h with h | ⟨h, _⟩ | ⟨_, h1, h2⟩
  · omega
  · omega
  · exact ⟨h2, h1⟩
theorem z_ty_m {q : zR} {k : Nat} (h10 : 10 ≤ q.1) (h23 : q.1 < 23) (hk : k < z_nf (q.1 - 10)) (ht : z_tc q.1 k = 3) : ∃ n, ∀ (C : String) (T : u_T) (N : Nat), zcl[q.1 - 10]? = some (C, T, N) → parseFieldDescriptor (T k).2.2.1 = some (.object n) ∧ (T k).2.2.2 = false := by
  obtain ⟨C, T, N, hc, h⟩ := z_tcx (c := q.1 - 10) (by omega) hk
  rw [show q.1 - 10 + 10 = q.1 by omega, ht] at h
  rcases h with h | ⟨_, h1, n, h2⟩ | ⟨h | h | h, _⟩
  · cases h
  · refine ⟨n, fun C' T' N' hc' => ?_⟩
    rw [hc] at hc'
    cases hc'
    exact ⟨h2, h1⟩
  · cases h
  · cases h
  · cases h
theorem z_en_np {y : Nat} (hy : y < 247) : (z_m y).2.2.2.2.2.1.2 ≤ 8 ∧ ((z_m y).2.2.2.2.2.1.1 = false → (z_m y).2.2.2.2.1.1 ≤ 13) := by
  have h := List.all_eq_true.mp z_np_ok (z_m y) (z_m_mem hy)
  simp only [Bool.and_eq_true, Bool.or_eq_true] at h
  refine ⟨Nat.le_of_ble_eq_true h.1, fun hs => ?_⟩
  rcases h.2 with h2 | h2
  · rw [hs] at h2; cases h2
  · exact Nat.le_of_ble_eq_true h2
/-- the shape of a call, in numbers -/
theorem z_en_s {y : Nat} (hy : y < 247) (hs : (z_m y).2.2.2.2.2.1.1 = true) : z_en y / 4 % 16 = (z_m y).2.2.2.2.2.1.2 ∧ z_en y / 64 = 0 := by
  have h := (z_en_np hy).1
  unfold z_en
  rw [hs]
  simp only [if_true]
  constructor <;> (split <;> omega)
theorem z_en_v {y : Nat} (hy : y < 247) (hs : (z_m y).2.2.2.2.2.1.1 = false) : z_en y / 4 % 16 = (z_m y).2.2.2.2.2.1.2 + 1 ∧ z_en y / 64 = z_kc (z_m y).2.2.2.2.1.1 + 1 := by
  have h := (z_en_np hy).1
  unfold z_en
  rw [hs]
  simp only [Bool.false_eq_true, if_false]
  generalize z_kc (z_m y).2.2.2.2.1.1 = k
  constructor <;> (split <;> omega)
theorem z_vl_c3 {cx : zX} : z_vl cx (3, 0, 0) := by
  refine ⟨?_, fun z => absurd z (by decide)⟩
  show 0 < z_bd 3 0
  decide +kernel
theorem z_vl_c2 {cx : zX} {i : Nat} (h : i < 2) : z_vl cx (2, i, 0) := by
  refine ⟨?_, fun z => absurd (show 10 ≤ 2 from z) (by decide)⟩
  show 0 < z_bd 2 i
  rw [z_bd_small.2.2 i h]
  decide
theorem z_at_8 {k : Nat} (h : z_at k = 8) : k = 1 := by
  have hk : k < 182 := z_at_lt (by rw [h]; decide)
  have h1 := List.all_eq_true.mp z_chkA_ok k (List.mem_range.mpr hk)
  rw [h] at h1
  exact Nat.eq_of_beq_eq_true h1
theorem z_at_9 {k : Nat} (h : z_at k = 9) : k = 2 := by
  have hk : k < 182 := z_at_lt (by rw [h]; decide)
  have h1 := List.all_eq_true.mp z_chkA_ok k (List.mem_range.mpr hk)
  rw [h] at h1
  exact Nat.eq_of_beq_eq_true h1
theorem z_at_89 {k : Nat} (h9 : z_at k ≤ 9) (h5 : 5 < z_at k) : z_at k = 8 ∨ z_at k = 9 := by
  have hk : k < 182 := z_at_lt (by omega)
  have h1 := List.all_eq_true.mp z_chkA_ok k (List.mem_range.mpr hk)
  rcases (show z_at k = 6 ∨ z_at k = 7 ∨ z_at k = 8 ∨ z_at k = 9 by omega) with h | h | h | h
  · rw [h] at h1; cases h1
  · rw [h] at h1; cases h1
  · exact Or.inl h
  · exact Or.inr h
theorem z_sbl : ∀ {i : Nat}, i < 26 → (z_sb.map List.length).getD i 0 = z_ln (1, i, 0) := by
  have h : ∀ i, i < 26 → (z_sb.map List.length).getD i 0 = z_ln (1, i, 0) := by decide +kernel
  exact fun {i} hi => h i hi
theorem z_ret_l {y pc : Nat} (h : z_okr y [(pc, .lreturn)] = true) : (z_m y).2.2.2.1 = some .long := by
  simpa [z_okr] using h
theorem z_ret_v {y pc : Nat} (h : z_okr y [(pc, .return_)] = true) : (z_m y).2.2.2.1 = none := by
  simpa [z_okr] using h
theorem z_ret_a {y pc : Nat} (h : z_okr y [(pc, .areturn)] = true) : ∃ n, (z_m y).2.2.2.1 = some (.object n) := by
  simp only [z_okr, Bool.and_true] at h
  split at h
  · rename_i n e; exact ⟨n, e⟩
  · cases h
theorem z_kc_ne {o : Nat} : z_kc o ≠ 3 := by
  unfold z_kc
  split <;> omega
theorem z_vo {cx : zX} {r : Option zV} {l : List zV} (h1 : ∀ v, r = some v → z_vv cx v) (h2 : ∀ v ∈ l, z_vv cx v) : ∀ v ∈ r.toList ++ l, z_vv cx v := by
  intro v hv
  rcases List.mem_append.mp hv with h | h
  · cases r with
    | none => cases h
    | some w =>
      simp at h
      subst h
      exact h1 _ rfl
  · exact h2 v h
theorem zOk.mono {y : Nat} {as : List zV} {h : zH} {Q Q' : Option zV → zH → Prop} (hk : zOk y as h Q) (hq : ∀ r hh, Q r hh → Q' r hh) : zOk y as h Q' := by
  intro cx l hv p e ha hc hkk s m args below hf hfit happ hpre
  obtain ⟨t, o, h1, h2, h3, h4⟩ := hk cx l hv p e ha hc hkk s m args below hf hfit happ hpre
  obtain ⟨⟨⟨r, hh, g1, g2, g3, g4⟩, g5⟩, g6⟩ := h4
  exact ⟨t, o, h1, h2, h3, ⟨⟨⟨r, hh, g1, g2, g3, hq r hh g4⟩, g5⟩, g6⟩⟩
theorem zOk.ofV {y : Nat} {as : List zV} {h : zH} {K : Option zV → zH → Prop} (hk : zOkV y as h (fun h1 => K none h1)) : zOk y as h K := zOk.mono hk (fun r hh hq => by
  match r, hq with
  | none, hq => exact hq
  | some (.inl x), hq => exact False.elim hq
  | some (.inr (.inl x)), hq => exact False.elim hq
  | some (.inr (.inr x)), hq => exact False.elim hq)
theorem zOk.ofI {y : Nat} {as : List zV} {h : zH} {K : Option zV → zH → Prop} (hk : zOkI y as h (fun x h1 => K (some (.inl x)) h1)) : zOk y as h K := zOk.mono hk (fun r hh hq => by
  match r, hq with
  | none, hq => exact False.elim hq
  | some (.inl x), hq => exact hq
  | some (.inr (.inl x)), hq => exact False.elim hq
  | some (.inr (.inr x)), hq => exact False.elim hq)
theorem zOk.ofL {y : Nat} {as : List zV} {h : zH} {K : Option zV → zH → Prop} (hk : zOkL y as h (fun x h1 => K (some (.inr (.inl x))) h1)) : zOk y as h K := zOk.mono hk (fun r hh hq => by
  match r, hq with
  | none, hq => exact False.elim hq
  | some (.inl x), hq => exact False.elim hq
  | some (.inr (.inl x)), hq => exact hq
  | some (.inr (.inr x)), hq => exact False.elim hq)
theorem zOk.ofR {y : Nat} {as : List zV} {h : zH} {K : Option zV → zH → Prop} (hk : zOkR y as h (fun x h1 => K (some (.inr (.inr x))) h1)) : zOk y as h K := zOk.mono hk (fun r hh hq => by
  match r, hq with
  | none, hq => exact False.elim hq
  | some (.inl x), hq => exact False.elim hq
  | some (.inr (.inl x)), hq => exact False.elim hq
  | some (.inr (.inr x)), hq => exact hq.2)
theorem z_invC {k en : Nat} {nx nc : zL → List zV → zH → Prop} {to : Nat → zL → List zV → zH → Prop} {Q : Option zV → zH → Prop} {L : zL} {st : List zV} {h : zH} (hw : z_ins (.invokeinterface k en) nx nc to Q L st h) : ∃ as r, z_pop (en / 4 % 16) [] st = some (as, r) ∧ z_cat r ≤ 8 ∧ (match en / 64, as with
        | 0, _ => true
        | k + 1, .inr (.inr q) :: _ => Nat.beq q.1 k
        | _, _ => false) = true ∧ zOk k as h (fun rr hh => nc L (rr.toList ++ r) hh) := by
  dsimp only [z_ins] at hw
  cases hp : z_pop (en / 4 % 16) [] st with
  | none => rw [hp] at hw; exact False.elim hw
  | some q =>
    obtain ⟨as, r⟩ := q
    rw [hp] at hw
    dsimp only at hw
    split at hw
    · rename_i hb
      simp only [Bool.and_eq_true] at hb
      refine ⟨as, r, rfl, Nat.le_of_ble_eq_true hb.1, hb.2, ?_⟩
      split at hw
      · exact zOk.ofV hw
      · exact zOk.ofI hw
      · exact zOk.ofL hw
      · exact zOk.ofR hw
    · exact False.elim hw
theorem z_recv {e : Nat} {as : List zV} (h : (match e, as with
        | 0, _ => true
        | k + 1, .inr (.inr q) :: _ => Nat.beq q.1 k
        | _, _ => false) = true) {k : Nat} (he : e = k + 1) : ∃ (q : zR) (as' : List zV), as = .inr (.inr q) :: as' ∧ q.1 = k := by
  subst he
  match as, h with
  | [], h => cases h
  | .inl _ :: _, h => cases h
  | .inr (.inl _) :: _, h => cases h
  | .inr (.inr q) :: as', h => exact ⟨q, as', rfl, Nat.eq_of_beq_eq_true h⟩
theorem z_cn_cl : ∀ o, o < 13 → zcl[o]?.map (fun r => r.1) = some (z_cn o) := by decide +kernel
theorem z_recvc {cx : zX} {y : Nat} {p : Program} {s : State} {m : MethodId} {args : Array Value} {meth : Method} {c : Code} {H : Heap} {locs : List Loc} {h : zH} (hE : z_E cx y p s m args meth c H locs) (hP : z_P cx h H) {q : zR} (hv : z_vl cx q) {o : Nat} (ho : o ≤ 13) (hq : q.1 = z_kc o) : ∃ cellB : Cell, H[cx.2.1 q]? = some cellB ∧ cellB.vm.isStatics = false ∧ s.vm.findClass (z_cn o) = some cellB.cls := by
  obtain ⟨hx, hb, hr, hml, hown, hts, hlk, hK, hC, hD, hS⟩ := hE
  unfold z_kc at hq
  by_cases h13 : o < 13
  · rw [if_pos h13] at hq
    have h1 := hP.one hv (by omega)
    rw [z_cell_o (by omega), show q.1 - 10 = o by omega] at h1
    have h2 := z_cn_cl o h13
    cases hc : zcl[o]? with
    | none => rw [hc] at h2; cases h2
    | some r =>
      rw [hc] at h2
      have h3 : r.1 = z_cn o := Option.some.inj h2
      rw [← h3]
      exact va_recv hK h1 hc (q0 := 0) rfl
  · rw [if_neg h13] at hq
    have e13 : o = 13 := by omega
    subst e13
    obtain ⟨i0, hi0, rfl⟩ := z_vl_0 hv hq
    exact vk_recv hC.1 hi0 hS
set_option maxRecDepth 100000 in
theorem z_rowK {o : Nat} {q : Nat × Int × Nat} (hq : q ∈ z_kls.getD o []) : lw_tbl[q.2.2]? = some (Cond.constant (z_cn o) q.1 (Int32.ofInt q.2.1)) := of_decide_eq_true (z_row z_lens.2.2.1 z_chkK_ok hq)
set_option maxRecDepth 100000 in
theorem z_rowLL {o : Nat} {q : Nat × Int × Nat} (hq : q ∈ z_lls.getD o []) : lw_tbl[q.2.2]? = some (Cond.constantLong (z_cn o) q.1 (Int64.ofInt q.2.1)) := of_decide_eq_true (z_row z_lens.2.2.2.1 z_chkLL_ok hq)
