section ZST2
variable {cx : zX} {y : Nat} {p : Program} {l : Launch} {e : Env} {s : State} {m : MethodId} {args : Array Value} {below : List Frame} {meth : Method} {c : Code} {H : Heap} {locs : List Loc} {ls : Array Slot} {pc : Nat} {R : Room} {cells slots : Nat} {Q : State → Prop} {rest : List Value} {h : zH}
/-! ===== arrays ===== -/
theorem z_ac0 {q : zR} {a : Nat} (ha : z_at q.1 = a) (h0 : a = 0 ∨ a = 2 ∨ a = 3) : z_ac cx h q = (z_ln q, .inl (h.1 q)) := by
  unfold z_ac
  rcases h0 with h0 | h0 | h0 <;> (subst h0; rw [ha]; rfl)
theorem z_ac1 {q : zR} (ha : z_at q.1 = 1) : z_ac cx h q = (z_ln q, .inr (.inl (h.2.1 q))) := by
  unfold z_ac
  rw [ha]
  rfl
theorem z_ac4 {q : zR} (ha : z_at q.1 = 4) : z_ac cx h q = (z_ln q, .inr (.inr (.inr (.inr (fun j => some (cx.2.1 (z_el q j))))))) := by
  unfold z_ac
  rw [ha]
  rfl
theorem z_ac5 {q : zR} (ha : z_at q.1 = 5) : z_ac cx h q = (z_ln q, .inr (.inr (.inr (.inr (fun j => (h.2.2 q j).map cx.2.1))))) := by
  unfold z_ac
  rw [ha]
  rfl
theorem z_Waldi (hE : z_E cx y p s m args meth c H locs) (hP : z_P cx h H) {q : zR} (hv : z_vl cx q) (ha : z_at q.1 = 0) {i : Int32} (hin : vp_in i (z_ln q)) (hd : decode (z_m y).2.1 pc = .ok (.iaload, 1))
    (kk : W p l e R s m args below meth c H locs cells slots Q (F0 m (pc + 1) ls (.int (h.1 q i.toNatClampNeg) :: rest))) : W p l e R s m args below meth c H locs cells slots Q (F0 m pc ls (.int i :: .ref (cx.2.1 q) :: rest)) := by
  obtain ⟨hx, hb, hr, hml, hown, hts, hlk, hK, hC, hD, hS⟩ := hE
  obtain ⟨f0, f1, -⟩ := z_at_fact ha (by omega)
  have h1 := hP.one hv (by omega)
  rw [z_cell_a f0, z_ac0 ha (Or.inl rfl), f1 rfl] at h1
  exact va_iald hx hb hK h1 0 0 rfl rfl hin hd kk
theorem z_Waldb (hE : z_E cx y p s m args meth c H locs) (hP : z_P cx h H) {q : zR} (hv : z_vl cx q) (ha : z_at q.1 = 2) {i : Int32} (hin : vp_in i (z_ln q)) (hd : decode (z_m y).2.1 pc = .ok (.baload, 1))
    (kk : W p l e R s m args below meth c H locs cells slots Q (F0 m (pc + 1) ls (.int (h.1 q i.toNatClampNeg) :: rest))) : W p l e R s m args below meth c H locs cells slots Q (F0 m pc ls (.int i :: .ref (cx.2.1 q) :: rest)) := by
  obtain ⟨hx, hb, hr, hml, hown, hts, hlk, hK, hC, hD, hS⟩ := hE
  obtain ⟨f0, -, -, f1, -⟩ := z_at_fact ha (by omega)
  have h1 := hP.one hv (by omega)
  rw [z_cell_a f0, z_ac0 ha (Or.inr (Or.inl rfl)), f1 rfl] at h1
  exact va_bald hx hb hK h1 0 2 rfl rfl hin hd kk
theorem z_Waldz (hE : z_E cx y p s m args meth c H locs) (hP : z_P cx h H) {q : zR} (hv : z_vl cx q) (ha : z_at q.1 = 3) {i : Int32} (hin : vp_in i (z_ln q)) (hd : decode (z_m y).2.1 pc = .ok (.baload, 1))
    (kk : W p l e R s m args below meth c H locs cells slots Q (F0 m (pc + 1) ls (.int (h.1 q i.toNatClampNeg) :: rest))) : W p l e R s m args below meth c H locs cells slots Q (F0 m pc ls (.int i :: .ref (cx.2.1 q) :: rest)) := by
  obtain ⟨hx, hb, hr, hml, hown, hts, hlk, hK, hC, hD, hS⟩ := hE
  obtain ⟨f0, -, -, -, f1, -⟩ := z_at_fact ha (by omega)
  have h1 := hP.one hv (by omega)
  rw [z_cell_a f0, z_ac0 ha (Or.inr (Or.inr rfl)), f1 rfl] at h1
  exact va_zald hx hb hK h1 0 3 rfl rfl hin hd kk
theorem z_Waldl (hE : z_E cx y p s m args meth c H locs) (hP : z_P cx h H) {q : zR} (hv : z_vl cx q) (ha : z_at q.1 = 1) {i : Int32} (hin : vp_in i (z_ln q)) (hd : decode (z_m y).2.1 pc = .ok (.laload, 1))
    (kk : W p l e R s m args below meth c H locs cells slots Q (F0 m (pc + 1) ls (.long (h.2.1 q i.toNatClampNeg) :: rest))) : W p l e R s m args below meth c H locs cells slots Q (F0 m pc ls (.int i :: .ref (cx.2.1 q) :: rest)) := by
  obtain ⟨hx, hb, hr, hml, hown, hts, hlk, hK, hC, hD, hS⟩ := hE
  obtain ⟨f0, -, f1, -⟩ := z_at_fact ha (by omega)
  have h1 := hP.one hv (by omega)
  rw [z_cell_a f0, z_ac1 ha, f1 rfl] at h1
  exact va_lald hx hb hK h1 0 1 rfl rfl hin hd kk
theorem z_tys_r {t : Nat} (h4 : 4 ≤ t) (h9 : t ≤ 9) : ∃ C : String, (z_tys cx)[t]? = some (cx.2.2.1 t, .object C) := by
  match t, h4, h9 with
  | 4, _, _ => exact ⟨_, rfl⟩
  | 5, _, _ => exact ⟨_, rfl⟩
  | 6, _, _ => exact ⟨_, rfl⟩
  | 7, _, _ => exact ⟨_, rfl⟩
  | 8, _, _ => exact ⟨_, rfl⟩
  | 9, _, _ => exact ⟨_, rfl⟩
theorem z_Walda (hE : z_E cx y p s m args meth c H locs) (hP : z_P cx h H) {q : zR} (hv : z_vl cx q) (ha : z_at q.1 = 4) {i : Int32} (hin : vp_in i (z_ln q)) (hd : decode (z_m y).2.1 pc = .ok (.aaload, 1))
    (kk : W p l e R s m args below meth c H locs cells slots Q (F0 m (pc + 1) ls (.ref (cx.2.1 (z_el q i.toNatClampNeg)) :: rest))) : W p l e R s m args below meth c H locs cells slots Q (F0 m pc ls (.int i :: .ref (cx.2.1 q) :: rest)) := by
  obtain ⟨hx, hb, hr, hml, hown, hts, hlk, hK, hC, hD, hS⟩ := hE
  obtain ⟨f0, -, -, -, -, f1, -⟩ := z_at_fact ha (by omega)
  have h1 := hP.one hv (by omega)
  rw [z_cell_a f0, z_ac4 ha] at h1
  obtain ⟨C, hC1⟩ := z_tys_r (cx := cx) (f1 rfl).1 (f1 rfl).2
  exact va_aldq hx hb hK h1 0 _ rfl hC1 hin hd kk
theorem z_Waldm (hE : z_E cx y p s m args meth c H locs) (hP : z_P cx h H) {q r : zR} (hv : z_vl cx q) (ha : z_at q.1 = 5) {i : Int32} (hin : vp_in i (z_ln q)) (hr : h.2.2 q i.toNatClampNeg = some r) (hd : decode (z_m y).2.1 pc = .ok (.aaload, 1))
    (kk : W p l e R s m args below meth c H locs cells slots Q (F0 m (pc + 1) ls (.ref (cx.2.1 r) :: rest))) : W p l e R s m args below meth c H locs cells slots Q (F0 m pc ls (.int i :: .ref (cx.2.1 q) :: rest)) := by
  obtain ⟨hx, hb, -, hml, hown, hts, hlk, hK, hC, hD, hS⟩ := hE
  obtain ⟨f0, -, -, -, -, -, f1⟩ := z_at_fact ha (by omega)
  have h1 := hP.one hv (by omega)
  rw [z_cell_a f0, z_ac5 ha, f1 rfl] at h1
  refine va_aldq (C := RX4) hx hb hK h1 0 5 rfl rfl hin hd ?_
  rw [hr]
  exact kk
theorem z_Walen (hE : z_E cx y p s m args meth c H locs) (hP : z_P cx h H) {q : zR} (hv : z_vl cx q) {a : Nat} (ha : z_at q.1 = a) (h5 : a ≤ 5) (hd : decode (z_m y).2.1 pc = .ok (.arraylength, 1))
    (kk : W p l e R s m args below meth c H locs cells slots Q (F0 m (pc + 1) ls (.int (Int32.ofNat (z_ln q)) :: rest))) : W p l e R s m args below meth c H locs cells slots Q (F0 m pc ls (.ref (cx.2.1 q) :: rest)) := by
  obtain ⟨hx, hb, hr, hml, hown, hts, hlk, hK, hC, hD, hS⟩ := hE
  obtain ⟨f0, g0, g1, g2, g3, g4, g5⟩ := z_at_fact ha h5
  have h1 := hP.one hv (by omega)
  rw [z_cell_a f0] at h1
  have ht : ∃ (t0 : Nat) (ty : FieldType), (z_tys cx)[t0]? = some (cx.2.2.1 (z_t0 q.1), ty) := by
    match a, h5, g0, g1, g2, g3, g4, g5 with
    | 0, _, g0, _, _, _, _, _ => exact ⟨0, .int, by rw [g0 rfl]; rfl⟩
    | 1, _, _, g1, _, _, _, _ => exact ⟨1, .long, by rw [g1 rfl]; rfl⟩
    | 2, _, _, _, g2, _, _, _ => exact ⟨2, .byte, by rw [g2 rfl]; rfl⟩
    | 3, _, _, _, _, g3, _, _ => exact ⟨3, .boolean, by rw [g3 rfl]; rfl⟩
    | 4, _, _, _, _, _, g4, _ =>
      obtain ⟨C, hC1⟩ := z_tys_r (cx := cx) (g4 rfl).1 (g4 rfl).2
      exact ⟨_, _, hC1⟩
    | 5, _, _, _, _, _, _, g5 => exact ⟨5, _, by rw [g5 rfl]; rfl⟩
  obtain ⟨t0, ty, ht⟩ := ht
  exact va_alen hx hb hK h1 0 t0 rfl ht rfl hd kk
theorem z_Wasti (hE : z_E cx y p s m args meth c H locs) (hP : z_P cx h H) {q : zR} (hv : z_vl cx q) (ha : z_at q.1 = 0) {i x : Int32} (hin : vp_in i (z_ln q)) (hd : decode (z_m y).2.1 pc = .ok (.iastore, 1))
    (kk : ∀ (H1 : Heap) (locs1 : List Loc), z_P cx (z_uI h q i.toNatClampNeg x) H1 → va_S (z_A cx) s.heap H1 locs1 → W p l e R s m args below meth c H1 locs1 cells slots Q (F0 m (pc + 1) ls rest)) : W p l e R s m args below meth c H locs cells slots Q (F0 m pc ls (.int x :: .int i :: .ref (cx.2.1 q) :: rest)) := by
  obtain ⟨hx, hb, hr, hml, hown, hts, hlk, hK, hC, hD, hS⟩ := hE
  obtain ⟨f0, f1, -⟩ := z_at_fact ha (by omega)
  have h10 : 10 ≤ q.1 := by omega
  have h1 := hP.one hv h10
  rw [z_cell_a f0, z_ac0 ha (Or.inl rfl), f1 rfl] at h1
  have h2 := h1 0 _ rfl
  refine W.iast hx hb h2 ((hK.2 0 _ rfl).1 (z_ln q) (fun j => .int (h.1 q j))) (fun q => by cases q) (by show ¬ (i < 0 ∨ (arrV _ _ _).slots.size ≤ _); rw [arrV_size]; exact hin) rfl rfl hd fun H1 e z oq => ?_
  refine kk H1 _ (hP.upd hD hv h10 ?_ oq (fun q' hq' => z_cell_uI hq') hP.2) (hS.put z oq (hD.2 q hv h10))
  rw [z_cell_a f0, z_ac0 ha (Or.inl rfl), f1 rfl]
  show H1[cx.2.1 q]? = some (vp_cell _ _)
  rw [e]
  rw [vp_cell_i, vp_cell_i, arrV_store]
  congr 2
  funext j
  show updV _ _ _ j = Value.int (if q = q ∧ j = i.toNatClampNeg then x else h.1 q j)
  by_cases hj : j = i.toNatClampNeg
  · subst hj
    simp [updV]
  · simp [updV, hj]
theorem z_Wastb (hE : z_E cx y p s m args meth c H locs) (hP : z_P cx h H) {q : zR} (hv : z_vl cx q) (ha : z_at q.1 = 2) {i x : Int32} (hin : vp_in i (z_ln q)) (hd : decode (z_m y).2.1 pc = .ok (.bastore, 1))
    (kk : ∀ (H1 : Heap) (locs1 : List Loc), z_P cx (z_uI h q i.toNatClampNeg (vp_nar .byte x)) H1 → va_S (z_A cx) s.heap H1 locs1 → W p l e R s m args below meth c H1 locs1 cells slots Q (F0 m (pc + 1) ls rest)) : W p l e R s m args below meth c H locs cells slots Q (F0 m pc ls (.int x :: .int i :: .ref (cx.2.1 q) :: rest)) := by
  obtain ⟨hx, hb, hr, hml, hown, hts, hlk, hK, hC, hD, hS⟩ := hE
  obtain ⟨f0, -, -, f1, -⟩ := z_at_fact ha (by omega)
  have h10 : 10 ≤ q.1 := by omega
  have h1 := hP.one hv h10
  rw [z_cell_a f0, z_ac0 ha (Or.inr (Or.inl rfl)), f1 rfl] at h1
  have h2 := h1 0 _ rfl
  refine W.bast hx hb h2 ((hK.2 2 _ rfl).1 (z_ln q) (fun j => .int (h.1 q j))) (fun q => by cases q) (by show ¬ (i < 0 ∨ (arrV _ _ _).slots.size ≤ _); rw [arrV_size]; exact hin) rfl rfl hd fun H1 e z oq => ?_
  refine kk H1 _ (hP.upd hD hv h10 ?_ oq (fun q' hq' => z_cell_uI hq') hP.2) (hS.put z oq (hD.2 q hv h10))
  rw [z_cell_a f0, z_ac0 ha (Or.inr (Or.inl rfl)), f1 rfl]
  show H1[cx.2.1 q]? = some (vp_cell _ _)
  rw [e]
  rw [vp_cell_i, vp_cell_i, arrV_store]
  congr 2
  funext j
  show updV _ _ _ j = Value.int (if q = q ∧ j = i.toNatClampNeg then vp_nar .byte x else h.1 q j)
  by_cases hj : j = i.toNatClampNeg
  · subst hj
    simp [updV, vp_nar]
    try rfl
  · simp [updV, hj]
theorem z_Wastz (hE : z_E cx y p s m args meth c H locs) (hP : z_P cx h H) {q : zR} (hv : z_vl cx q) (ha : z_at q.1 = 3) {i x : Int32} (hin : vp_in i (z_ln q)) (hd : decode (z_m y).2.1 pc = .ok (.bastore, 1))
    (kk : ∀ (H1 : Heap) (locs1 : List Loc), z_P cx (z_uI h q i.toNatClampNeg (vp_nar .boolean x)) H1 → va_S (z_A cx) s.heap H1 locs1 → W p l e R s m args below meth c H1 locs1 cells slots Q (F0 m (pc + 1) ls rest)) : W p l e R s m args below meth c H locs cells slots Q (F0 m pc ls (.int x :: .int i :: .ref (cx.2.1 q) :: rest)) := by
  obtain ⟨hx, hb, hr, hml, hown, hts, hlk, hK, hC, hD, hS⟩ := hE
  obtain ⟨f0, -, -, -, f1, -⟩ := z_at_fact ha (by omega)
  have h10 : 10 ≤ q.1 := by omega
  have h1 := hP.one hv h10
  rw [z_cell_a f0, z_ac0 ha (Or.inr (Or.inr rfl)), f1 rfl] at h1
  have h2 := h1 0 _ rfl
  refine W.zast hx hb h2 ((hK.2 3 _ rfl).1 (z_ln q) (fun j => .int (h.1 q j))) (fun q => by cases q) (by show ¬ (i < 0 ∨ (arrV _ _ _).slots.size ≤ _); rw [arrV_size]; exact hin) rfl rfl hd fun H1 e z oq => ?_
  refine kk H1 _ (hP.upd hD hv h10 ?_ oq (fun q' hq' => z_cell_uI hq') hP.2) (hS.put z oq (hD.2 q hv h10))
  rw [z_cell_a f0, z_ac0 ha (Or.inr (Or.inr rfl)), f1 rfl]
  show H1[cx.2.1 q]? = some (vp_cell _ _)
  rw [e]
  rw [vp_cell_i, vp_cell_i, arrV_store]
  congr 2
  funext j
  show updV _ _ _ j = Value.int (if q = q ∧ j = i.toNatClampNeg then vp_nar .boolean x else h.1 q j)
  by_cases hj : j = i.toNatClampNeg
  · subst hj
    simp [updV, vp_nar]
    try rfl
  · simp [updV, hj]
theorem z_Wastl (hE : z_E cx y p s m args meth c H locs) (hP : z_P cx h H) {q : zR} (hv : z_vl cx q) (ha : z_at q.1 = 1) {i : Int32} {x : Int64} (hin : vp_in i (z_ln q)) (hd : decode (z_m y).2.1 pc = .ok (.lastore, 1))
    (kk : ∀ (H1 : Heap) (locs1 : List Loc), z_P cx (z_uL h q i.toNatClampNeg x) H1 → va_S (z_A cx) s.heap H1 locs1 → W p l e R s m args below meth c H1 locs1 cells slots Q (F0 m (pc + 1) ls rest)) : W p l e R s m args below meth c H locs cells slots Q (F0 m pc ls (.long x :: .int i :: .ref (cx.2.1 q) :: rest)) := by
  obtain ⟨hx, hb, hr, hml, hown, hts, hlk, hK, hC, hD, hS⟩ := hE
  obtain ⟨f0, -, f1, -⟩ := z_at_fact ha (by omega)
  have h10 : 10 ≤ q.1 := by omega
  have h1 := hP.one hv h10
  rw [z_cell_a f0, z_ac1 ha, f1 rfl] at h1
  have h2 := h1 0 _ rfl
  refine W.last hx hb h2 ((hK.2 1 _ rfl).1 (z_ln q) (fun j => .long (h.2.1 q j))) (fun q => by cases q) (by show ¬ (i < 0 ∨ (arrV _ _ _).slots.size ≤ _); rw [arrV_size]; exact hin) rfl rfl hd fun H1 e z oq => ?_
  refine kk H1 _ (hP.upd hD hv h10 ?_ oq (fun q' hq' => z_cell_uL hq') hP.2) (hS.put z oq (hD.2 q hv h10))
  rw [z_cell_a f0, z_ac1 ha, f1 rfl]
  show H1[cx.2.1 q]? = some (vp_cell _ _)
  rw [e]
  rw [vp_cell_l, vp_cell_l, arrV_store]
  congr 2
  funext j
  show updV _ _ _ j = Value.long (if q = q ∧ j = i.toNatClampNeg then x else h.2.1 q j)
  by_cases hj : j = i.toNatClampNeg
  · subst hj
    simp [updV]
  · simp [updV, hj]
theorem z_uR_ok {cx : zX} {h : zH} {q r : zR} {k : Nat} (hr : z_vl cx r ∧ r.1 ≠ 3) (hP : ∀ (q' : zR) (k : Nat) (q'' : zR), h.2.2 q' k = some q'' → z_vl cx q'' ∧ q''.1 ≠ 3) : ∀ (q' : zR) (k' : Nat) (q'' : zR), (z_uR h q k r).2.2 q' k' = some q'' → z_vl cx q'' ∧ q''.1 ≠ 3 := by
  intro q' k' q'' e
  have e' : (if q' = q ∧ k' = k then some r else h.2.2 q' k') = some q'' := e
  by_cases hh : q' = q ∧ k' = k
  · rw [if_pos hh] at e'
    cases e'
    exact hr
  · rw [if_neg hh] at e'
    exact hP q' k' q'' e'
theorem z_Wasta (hE : z_E cx y p s m args meth c H locs) (hP : z_P cx h H) {q r : zR} (hv : z_vl cx q) (hvr : z_vl cx r) (hr14 : r.1 = 14) (ha : z_at q.1 = 5) {i : Int32} (hin : vp_in i (z_ln q)) (hd : decode (z_m y).2.1 pc = .ok (.aastore, 1))
    (kk : ∀ (H1 : Heap) (locs1 : List Loc), z_P cx (z_uR h q i.toNatClampNeg r) H1 → va_S (z_A cx) s.heap H1 locs1 → W p l e R s m args below meth c H1 locs1 cells slots Q (F0 m (pc + 1) ls rest)) : W p l e R s m args below meth c H locs cells slots Q (F0 m pc ls (.ref (cx.2.1 r) :: .int i :: .ref (cx.2.1 q) :: rest)) := by
  obtain ⟨hx, hb, -, hml, hown, hts, hlk, hK, hC, hD, hS⟩ := hE
  obtain ⟨f0, -, -, -, -, -, f1⟩ := z_at_fact ha (by omega)
  have h10 : 10 ≤ q.1 := by omega
  have h1 := hP.one hv h10
  rw [z_cell_a f0, z_ac5 ha, f1 rfl] at h1
  have h2 := h1 0 _ rfl
  have hlt : i.toNatClampNeg < z_ln q := Nat.not_le.mp fun q => hin (Or.inr q)
  have h0 : ¬ i < 0 := fun q => hin (Or.inl q)
  obtain ⟨r', hr', cellV, g1, g2, g3, -⟩ := (hP.one hvr (by omega)) 0 _ (by rw [z_cell_o (by omega)]; rfl)
  have e14 : r.1 - 10 = 4 := by omega
  rw [e14] at hr' g2
  have hcls := (hK.1 4 _ rfl).2
  obtain ⟨kA, comp, k1, k2, k3, -⟩ := (hK.2 5 _ rfl).2
  have hcomp : comp = cx.1.1 4 := Option.some.inj (k3.symm.trans hcls.1)
  subst hcomp
  have hcls' := hcls
  obtain ⟨kC, hkC, -⟩ := hcls'.2
  refine W.aast hx hb h2 (fun q h => by cases h) (fun h => by cases h) k1 k2 rfl hkC ⟨h0, by show _ < (arrV _ _ _).slots.size; rw [arrV_size]; exact hlt⟩ g1 (fun q h => by rw [g3] at h; cases h) (by rw [g2]; exact hkC) (by rw [g2]; exact va_assign hcls) rfl rfl hd fun H1 e z oq => ?_
  refine kk H1 _ (hP.upd hD hv h10 ?_ oq (fun q' hq' => z_cell_uR hq') (z_uR_ok ⟨hvr, by omega⟩ hP.2)) (hS.put z oq (hD.2 q hv h10))
  rw [z_cell_a f0, z_ac5 ha, f1 rfl]
  show H1[cx.2.1 q]? = some (vp_cell _ _)
  rw [e]
  rw [vp_cell_q, vp_cell_q, arrV_store]
  congr 2
  funext j
  show updV _ _ _ j = va_rf ((if q = q ∧ j = i.toNatClampNeg then some r else h.2.2 q j).map cx.2.1)
  by_cases hj : j = i.toNatClampNeg
  · subst hj
    simp [updV, va_rf]
  · simp [updV, hj]
/-! ===== constants ===== -/
theorem z_WT (hE : z_E cx y p s m args meth c H locs) {t N : Nat} {f : Nat → Value} {ty : FieldType} (hT : va_T ty t N f (z_A cx) s s.heap) : ∃ cell : Cell, H[t]? = some cell ∧ s.isArrayOf cell ty ∧ cell.vm ≠ .unknown ∧ N ≤ cell.slots.size ∧ cell.slots.size.toInt32 = Int32.ofNat N ∧ ∀ j : Nat, j < N → cell.slots[j]? = some (f j) := by
  obtain ⟨hx, hb, hr, hml, hown, hts, hlk, hK, hC, hD, hS⟩ := hE
  obtain ⟨cell, h1, h2, h3, h4, h5, h6, -⟩ := hT.kept hS.2.1
  exact ⟨cell, h1, h2, h3, h4, h5, h6⟩
/-! ===== calls ===== -/
theorem z_callk {Qk : Option zV → zH → Prop} {a : Array Value} {st0 : List Value} (hr : va_Run p l e R s m args below meth c H locs 0 0 0 0 (F0 m pc ls st0) rest (z_Q cx Qk a) (z_A cx)) (hS : va_S (z_A cx) s.heap H locs)
    (kk : ∀ (r : Option zV) (hh : zH) (H1 : Heap) (locs1 : List Loc), z_P cx hh H1 → (∀ v, r = some v → z_vv cx v) → Qk r hh → va_S (z_A cx) s.heap H1 locs1 → W p l e R s m args below meth c H1 locs1 0 0 Q (F0 m (pc + 3) ls ((r.map (z_cv cx)).toList ++ rest))) : W p l e R s m args below meth c H locs 0 0 Q (F0 m pc ls st0) := by
  intro T hT X
  obtain ⟨v, st₀, t, T', L, h0, X', hL, e1, e2, ⟨⟨r, hh, hv, hw, hvv, hq⟩, hz, hk⟩, st⟩ := hr T hT X
  have hv' : v = r.map (z_cv cx) := by cases hv; rfl
  subst hv'
  rw [h0] at hz hk
  obtain ⟨t2, a1, b1⟩ := kk r hh T'.heap (locs ++ L) (by rw [e1]; exact hw.1) hvv hq
    ⟨Nat.le_trans hS.1 (by rw [e1]; exact hz), fun q h1 h2 => by rw [e1, hk q (Nat.lt_of_lt_of_le h1 hS.1) h2]; exact hS.2.1 q h1 h2, fun q hq => by
      rcases List.mem_append.mp hq with h | h
      · exact hS.2.2 q h
      · exact hL q h⟩ T' rfl X'
  exact ⟨t2, st t2 a1, b1⟩
end ZST2
theorem z_pop_spec : ∀ (n : Nat) (acc st as r : List zV), z_pop n acc st = some (as, r) → ∃ xs : List zV, xs.length = n ∧ st = xs ++ r ∧ as = xs.reverse ++ acc
  | 0, acc, st, as, r, h => by
    simp only [z_pop] at h
    cases h
    exact ⟨[], rfl, rfl, rfl⟩
  | n + 1, acc, [], as, r, h => by simp [z_pop] at h
  | n + 1, acc, v :: st, as, r, h => by
    simp only [z_pop] at h
    obtain ⟨xs, h1, h2, h3⟩ := z_pop_spec n (v :: acc) st as r h
    exact ⟨v :: xs, by simp [h1], by simp [h2], by simp [h3]⟩
theorem z_cat_spec (cx : zX) : ∀ r : List zV, ((r.map (z_cv cx)).map fun v => v.category).sum = z_cat r
  | [] => rfl
  | .inl x :: t => by
    have h := z_cat_spec cx t
    have hc : (z_cv cx (.inl x)).category = 1 := rfl
    simp only [List.map_cons, List.sum_cons, hc, z_cat, h]
  | .inr (.inl x) :: t => by
    have h := z_cat_spec cx t
    have hc : (z_cv cx (.inr (.inl x))).category = 2 := rfl
    simp only [List.map_cons, List.sum_cons, hc, z_cat, h]
  | .inr (.inr x) :: t => by
    have h := z_cat_spec cx t
    have hc : (z_cv cx (.inr (.inr x))).category = 1 := z_cat_cv cx _ (fun y e => by cases e)
    simp only [List.map_cons, List.sum_cons, hc, z_cat, h]
theorem z_np_ok : (z_ms.all fun r => Nat.ble r.2.2.2.2.2.1.2 8 && (r.2.2.2.2.2.1.1 || Nat.ble r.2.2.2.2.1.1 13)) = true := by decide +kernel
