/-- tape, files and page, on both sides -/
def tx (h : zH) (t : List Int32) (fs : Nat → List Int32) (pg : List Int32) : Prop :=
  (bt h 1 0 t ∧ tpM h t ∧ ∀ x ∈ t, tb x) ∧ (∀ f, f < 6 → bt h 0 f (fs f) ∧ flM h f (fs f) ∧ ∀ x ∈ fs f, tb x) ∧ bt h 2 0 pg ∧ pgM h pg ∧ ∀ x ∈ pg, tb x
def txS (q : zR) (k : Nat) : Prop := (q.1 = 10 ∧ q.2.1 < 3) ∨ (q.1 = 30 ∧ q.2.1 < 3) ∨ q = (100, 0, 0) ∨ q = (102, 0, 0) ∨ q = (103, 0, 0) ∨ q = (178, 0, 0) ∨ (q = (22, 0, 0) ∧ (k = 1 ∨ k = 79))
theorem bS_tx {i j : Nat} (hi : i < 3) {q : zR} {k : Nat} (h : bS i j q k) : txS q k := by
  rcases h with h | h
  · rw [h]; exact Or.inl ⟨rfl, hi⟩
  · rw [h]; exact Or.inr (Or.inl ⟨rfl, hi⟩)
theorem mtS_tx {q : zR} {k : Nat} (h : mtS q k) : txS q k := by
  rcases h with h | ⟨h, e⟩
  · exact Or.inr (Or.inr (Or.inl h))
  · exact Or.inr (Or.inr (Or.inr (Or.inr (Or.inr (Or.inr ⟨h, Or.inl e⟩)))))
theorem tpM.zf {S : zR → Nat → Prop} {h h1 : zH} {l : List Int32} (b : tpM h l) (f : zf S h h1) (n1 : ¬ S (22, 0, 0) 1) (n2 : ∀ k, ¬ S (100, 0, 0) k) : tpM h1 l := ⟨(f _ _ n1).1.trans b.1, fun k hk => (f _ _ (n2 k)).1.trans (b.2 k hk)⟩
theorem flM.zf {S : zR → Nat → Prop} {h h1 : zH} {n : Nat} {l : List Int32} (b : flM h n l) (f : zf S h h1) (n1 : ∀ k, ¬ S (103, 0, 0) k) (n2 : ∀ k, ¬ S (102, 0, 0) k) : flM h1 n l := ⟨(f _ _ (n1 _)).1.trans b.1, fun k hk => (f _ _ (n2 _)).1.trans (b.2 k hk)⟩
theorem pgM.zf {S : zR → Nat → Prop} {h h1 : zH} {l : List Int32} (b : pgM h l) (f : zf S h h1) (n1 : ¬ S (22, 0, 0) 79) (n2 : ∀ k, ¬ S (178, 0, 0) k) : pgM h1 l := ⟨(f _ _ n1).1.trans b.1, fun k hk => (f _ _ (n2 k)).1.trans (b.2 k hk)⟩
/-- the component's tape changes -/
theorem tx.ct {h h1 : zH} {fs : Nat → List Int32} {t pg : List Int32} (a : tx h t fs pg) (f : zf (bS 1 0) h h1) : tpM h1 t ∧ (∀ f, f < 6 → bt h1 0 f (fs f) ∧ flM h1 f (fs f) ∧ ∀ x ∈ fs f, tb x) ∧ bt h1 2 0 pg ∧ pgM h1 pg ∧ ∀ x ∈ pg, tb x := by
  obtain ⟨⟨_, a2, _⟩, a4, a5, a6, a7⟩ := a
  have nn : ∀ {kd i j k : Nat}, kd ≠ 10 → kd ≠ 30 → ¬ bS 1 0 (kd, i, j) k := fun h1 h2 z => z.elim (fun e => h1 (by cases e; rfl)) (fun e => h2 (by cases e; rfl))
  have n0 : ∀ {kd i j k : Nat}, i ≠ 1 → ¬ bS 1 0 (kd, i, j) k := fun h1 z => z.elim (fun e => by cases e; exact h1 rfl) (fun e => by cases e; exact h1 rfl)
  refine ⟨a2.zf f (nn (by decide) (by decide)) (fun _ => nn (by decide) (by decide)), fun g hg => ⟨(a4 g hg).1.zf f (n0 (by decide)) (fun _ => n0 (by decide)), (a4 g hg).2.1.zf f (fun _ => nn (by decide) (by decide)) (fun _ => nn (by decide) (by decide)), (a4 g hg).2.2⟩, a5.zf f (n0 (by decide)) (fun _ => n0 (by decide)), a6.zf f (nn (by decide) (by decide)) (fun _ => nn (by decide) (by decide)), a7⟩
/-- then the model's -/
theorem tx.mt {h h1 : zH} {fs : Nat → List Int32} {t pg : List Int32} (a : bt h 1 0 t ∧ (∀ f, f < 6 → bt h 0 f (fs f) ∧ flM h f (fs f) ∧ ∀ x ∈ fs f, tb x) ∧ bt h 2 0 pg ∧ pgM h pg ∧ ∀ x ∈ pg, tb x) (f : zf mtS h h1) (b : tpM h1 t) (ht : ∀ x ∈ t, tb x) : tx h1 t fs pg := by
  obtain ⟨a1, a4, a5, a6, a7⟩ := a
  have nn : ∀ {kd i j k : Nat}, kd ≠ 100 → kd ≠ 22 → ¬ mtS (kd, i, j) k := fun h1 h2 z => z.elim (fun e => h1 (by cases e; rfl)) (fun e => h2 (by cases e.1; rfl))
  have n2 : ¬ mtS (22, 0, 0) 79 := fun z => z.elim (fun e => by cases e) (fun e => by cases e.2)
  refine ⟨⟨a1.zf f (nn (by decide) (by decide)) (fun _ => nn (by decide) (by decide)), b, ht⟩, fun g hg => ⟨(a4 g hg).1.zf f (nn (by decide) (by decide)) (fun _ => nn (by decide) (by decide)), (a4 g hg).2.1.zf f (fun _ => nn (by decide) (by decide)) (fun _ => nn (by decide) (by decide)), (a4 g hg).2.2⟩, a5.zf f (nn (by decide) (by decide)) (fun _ => nn (by decide) (by decide)), a6.zf f n2 (fun _ => nn (by decide) (by decide)), a7⟩
section PUB1
variable {h : zH} {t pg : List Int32} {fs : Nat → List Int32} {K : Int32 → Int32 → zH → Prop}
theorem P_type {w : Int64} {x : Int32} (a : tx h t fs pg) (k : ∀ r h2 t', tx h2 t' fs pg → zf txS h h2 → K r r h2) : zOkI m_J_type [.inr (.inr (21, 0, 0)), .inr (.inl w), .inl x] h (fun r h1 => zOkI m_M_type [.inr (.inr (22, 0, 0)), .inr (.inl w), .inl x] h1 (fun r' h2 => K r r' h2)) := by
  have hcap : t.length ≤ 1200 := a.1.1.2.1
  refine s_J_type a.1.1 (fun r h1 t' hr b f => ?_)
  have a1 := a.ct f
  refine s_M_type a1.1 hcap (fun r' h2 t'' hr' b2 f2 => ?_)
  obtain ⟨e1, e2⟩ := tyR_det hr' hr
  subst e1
  subst e2
  exact k _ _ _ (tx.mt ⟨b, a1.2⟩ f2 b2 (tyR_ok hr a.1.2.2 hcap).1) ((f.wk (fun _ _ => bS_tx (by decide))).tr (f2.wk (fun _ _ => mtS_tx)))
theorem P_cut {x : Int32} (a : tx h t fs pg) (k : ∀ r h2 t', tx h2 t' fs pg → zf txS h h2 → K r r h2) : zOkI m_J_cut [.inr (.inr (21, 0, 0)), .inl x] h (fun r h1 => zOkI m_M_cut [.inr (.inr (22, 0, 0)), .inl x] h1 (fun r' h2 => K r r' h2)) := by
  have hcap : t.length ≤ 1200 := a.1.1.2.1
  have e1 := a.1.1.1
  have e2 := a.1.2.1.1
  have bad : (x < 0 ∨ nI t.length < x) → zOkI m_M_cut [.inr (.inr (22, 0, 0)), .inl x] h (fun r' h2 => K (-1) r' h2) := by
    intro hx
    refine o_M_cut ?_
    rw [e2]
    refine s_M_in (g_M_cut_9 ⟨fun _ => k _ _ t a zf.rf, fun c => ?_⟩)
    exact absurd (zb1.mp c) (fun z => hx.elim z.1 z.2)
  refine o_J_cut ⟨fun c => bad (Or.inl c), fun c => ?_⟩
  rw [e1]
  refine ⟨fun d => bad (Or.inr d), fun d h1 f1 => ?_⟩
  obtain ⟨n, hn, rfl⟩ := nI_of c
  have hnl : n ≤ t.length := by
    rcases Nat.lt_or_ge t.length n with y | y
    · exact absurd (nI_lt y hn) d
    · exact y
  rw [pk_sub hnl] at f1
  have fz : zf (bS 1 0) h h1 := by rw [f1]; exact zf.uI (Or.inl rfl)
  have a1 := a.ct fz
  have hlt : (t.take (t.length - n)).length = t.length - n := by simp
  have hget : ∀ i, i < t.length - n → (t.take (t.length - n)).getD i 0 = t.getD i 0 := by
    intro i hi
    simp only [List.getD_eq_getElem?_getD]
    rw [List.getElem?_take_of_lt hi]
  have b1 : bt h1 1 0 (t.take (t.length - n)) := by
    refine ⟨?_, by rw [hlt]; show _ ≤ 1200; omega, fun i hi => ?_⟩
    · rw [hlt, f1, z_uI_s]
    · rw [hlt] at hi
      rw [hget i hi, f1, z_uI_n (fun z => by cases z.1)]
      exact a.1.1.2.2 i (by omega)
  refine o_M_cut ?_
  rw [a1.1.1]
  refine s_M_in (g_M_cut_9 ⟨fun z => absurd (zb0.mp z) (fun y => y ⟨c, fun w => nI_nlt hnl (by omega) w⟩), fun _ h2 f2 => ?_⟩)
  rw [a1.1.1, pk_sub hnl] at f2
  have ez : h1.1 (10, 1, 0) 1 = h2.1 (22, 0, 0) 1 := by rw [f1, f2, z_uI_s, z_uI_s]
  rw [ez]
  have fz2 : zf mtS h1 h2 := by rw [f2]; exact zf.uI (Or.inr ⟨rfl, rfl⟩)
  refine k _ _ (t.take (t.length - n)) (tx.mt ⟨b1, a1.2⟩ fz2 ⟨?_, fun i hi => ?_⟩ (fun y hy => a.1.2.2 y (List.mem_of_mem_take hy))) ((fz.wk (fun _ _ => bS_tx (by decide))).tr (fz2.wk (fun _ _ => mtS_tx)))
  · rw [hlt, f2, z_uI_s]
  · rw [hlt] at hi
    rw [hget i hi, f2, z_uI_n (fun z => by cases z.1)]
    exact a1.1.2 i (by omega)
theorem P_out {x : Int32} (a : tx h t fs pg) (k : ∀ r, K r r h) : zOkI m_J_out [.inr (.inr (21, 0, 0)), .inl x] h (fun r h1 => zOkI m_M_out [.inr (.inr (22, 0, 0)), .inl x] h1 (fun r' h2 => K r r' h2)) := by
  obtain ⟨-, -, a5, a6, -⟩ := a
  have hc : pg.length ≤ 9728 := a5.2.1
  refine o_J_out (s_B_at a5 (g_J_out_8 ?_))
  refine o_M_out ?_
  rw [a6.1]
  refine s_M_in (g_M_out_11 ⟨fun c => ?_, fun c => ?_⟩)
  · have c' := zb0.mp c
    unfold lat
    rw [if_neg (fun z => c' ((nI_in1 (by omega)).mpr z))]
    exact k _
  · have c' := (nI_in1 (by omega)).mp (zb1.mp c)
    obtain ⟨n, hn, rfl⟩ := nI_of c'.1
    have hl := (nI_ltI hn (by omega)).mp c'.2
    unfold lat
    rw [if_pos c', nI_clamp hn, a6.2 n hl]
    exact ⟨vp_in_nI (by omega) (by decide), k _⟩
theorem isf {x : Int32} : (¬ x < 0 ∧ ¬ 5 < x) ↔ (¬ x < 0 ∧ x < 6) := by
  rw [Int32.lt_iff_toInt_lt, Int32.lt_iff_toInt_lt, Int32.lt_iff_toInt_lt, show (5 : Int32).toInt = 5 from rfl, show (6 : Int32).toInt = 6 from rfl]
  omega
theorem isf_nI {x : Int32} (h : ¬ x < 0 ∧ x < 6) : ∃ n, n < 6 ∧ x = nI n := by
  obtain ⟨n, hn, rfl⟩ := nI_of h.1
  exact ⟨n, (nI_ltI (b := 6) hn (by decide)).mp h.2, rfl⟩
theorem P_byteOf {x y : Int32} (a : tx h t fs pg) (k : ∀ r, K r r h) : zOkI m_J_byteOf [.inr (.inr (21, 0, 0)), .inl x, .inl y] h (fun r h1 => zOkI m_M_byteOf [.inr (.inr (22, 0, 0)), .inl x, .inl y] h1 (fun r' h2 => K r r' h2)) := by
  refine o_J_byteOf (s_J_isFile (g_J_byteOf_4 ⟨fun c => ?_, fun c => ?_⟩))
  · have c' := zb0.mp c
    refine o_M_byteOf (s_M_in (g_M_byteOf_6 ⟨fun _ => k _, fun d => absurd (isf.mp (zb1.mp d)) c'⟩))
  · have c' := zb1.mp c
    obtain ⟨n, hn, rfl⟩ := isf_nI c'
    rw [nI_clamp (by omega)]
    obtain ⟨b1, b2, -⟩ := a.2.1 n hn
    have hc : (fs n).length ≤ 1200 := b1.2.1
    refine ⟨vp_in_nI hn (by decide), s_B_at b1 (g_J_byteOf_19 ?_)⟩
    refine o_M_byteOf (s_M_in (g_M_byteOf_6 ⟨fun d => absurd (zb0.mp d) (fun z => z (isf.mpr c')), fun _ => ⟨vp_in_nI hn (by decide), ?_⟩⟩))
    rw [nI_clamp (by omega), b2.1]
    refine s_M_in (g_M_byteOf_26 ⟨fun d => ?_, fun d => ?_⟩)
    · have d' := zb0.mp d
      unfold lat
      rw [if_neg (fun z => d' ((nI_in1 (by omega)).mpr z))]
      exact k _
    · have d' := (nI_in1 (by omega)).mp (zb1.mp d)
      obtain ⟨m, hm, rfl⟩ := nI_of d'.1
      have hl := (nI_ltI hm (by omega)).mp d'.2
      unfold lat
      rw [if_pos d', nI_clamp hm, show (1200 : Int32) * nI n + nI m = nI (1200 * n + m) by rw [show (1200 : Int32) = nI 1200 from rfl, pk_mul, nI_add], nI_clamp (by omega), b2.2 m hl]
      exact ⟨vp_in_nI (by omega) (by decide), k _⟩
end PUB1
