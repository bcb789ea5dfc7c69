/-! ===== read on a fresh object: the model keeps the empty job ===== -/
def kpS (q : zR) (_ : Nat) : Prop := q.1 ≠ 117
section FR5
variable {K : zH → Prop}
theorem kI {h0 h h1 : zH} {q : zR} {k : Nat} {x : Int32} (z : zf kpS h0 h) (hq : q.1 ≠ 117) (d : h1 = z_uI h q k x) : zf kpS h0 h1 := by subst d; exact z.tr (zf.uI hq)
theorem kL {h0 h h1 : zH} {q : zR} {k : Nat} {x : Int64} (z : zf kpS h0 h) (hq : q.1 ≠ 117) (d : h1 = z_uL h q k x) : zf kpS h0 h1 := by subst d; exact z.tr (zf.uL hq)
theorem mad (a n k : Nat) : nI a * nI n + nI k = nI (a * n + k) := by rw [pk_mul, nI_add]
theorem f_keep95 {a b : Nat} (ha : a < 120) (hb : b < 120) : ∀ (n j : Nat), j + n = 3 → ∀ h : zH, (∀ h1, zf kpS h h1 → K h1) → zAt m_M_keepInputs 95 [some (.inr (.inr (22, 0, 0))), some (.inl (nI a)), some (.inl (nI b)), some (.inl (nI j))] [] h (z_qV K) := by
  intro n
  induction n with
  | zero =>
    intro j hj h k
    have e : j = 3 := by omega
    subst e
    exact g_M_keepInputs_95 ⟨fun c => absurd c (by decide), fun _ => k _ zf.rf⟩
  | succ n ih =>
    intro j hj h k
    refine g_M_keepInputs_95 ⟨fun _ => ?_, fun c => absurd (nI_lt (b := 3) (by omega) (by decide)) c⟩
    rw [show (3 : Int32) = nI 3 from rfl, mad, mad]
    refine ⟨vp_in_nI (by omega) (by decide), vp_in_nI (by omega) (by decide), fun h1 d1 => ?_⟩
    rw [← nI_succ]
    exact ih (j + 1) (by omega) h1 (fun h2 z2 => k h2 ((kL zf.rf (by decide) d1).tr z2))
theorem f_keep2 {a b : Nat} (ha : a < 120) (hb : b < 120) : ∀ (n j : Nat), j + n = 4 → ∀ h : zH, (∀ h1, zf kpS h h1 → K h1) → zAt m_M_keepInputs 2 [some (.inr (.inr (22, 0, 0))), some (.inl (nI a)), some (.inl (nI b)), some (.inl (nI j))] [] h (z_qV K) := by
  intro n
  induction n with
  | zero =>
    intro j hj h k
    have e : j = 4 := by omega
    subst e
    exact g_M_keepInputs_2 ⟨fun c => absurd c (by decide), fun _ => f_keep95 ha hb 3 0 rfl h k⟩
  | succ n ih =>
    intro j hj h k
    refine g_M_keepInputs_2 ⟨fun _ => ?_, fun c => absurd (nI_lt (b := 4) (by omega) (by decide)) c⟩
    rw [show (4 : Int32) = nI 4 from rfl, mad, mad]
    have va : vp_in (nI (4 * a + j)) 480 := vp_in_nI (by omega) (by decide)
    have vb : vp_in (nI (4 * b + j)) 480 := vp_in_nI (by omega) (by decide)
    refine ⟨va, vb, fun h1 d1 => ⟨va, vb, fun h2 d2 => ⟨va, vb, fun h3 d3 => ⟨va, vb, fun h4 d4 => ?_⟩⟩⟩⟩
    rw [← nI_succ]
    exact ih (j + 1) (by omega) h4 (fun h5 z5 => k h5 ((kI (kI (kL (kL zf.rf (by decide) d1) (by decide) d2) (by decide) d3) (by decide) d4).tr z5))
theorem f_M_keepOperator {h : zH} {a b : Nat} (ha : a < 120) (hb : b < 120) (k : ∀ h1, zf kpS h h1 → K h1) : zOkV m_M_keepOperator [.inr (.inr (22, 0, 0)), .inl (nI a), .inl (nI b)] h K := by
  have va : vp_in (nI a) 120 := vp_in_nI ha (by decide)
  have vb : vp_in (nI b) 120 := vp_in_nI hb (by decide)
  refine o_M_keepOperator ?_
  have z : zf kpS h h := zf.rf
  iterate 21
    refine ⟨va, vb, fun h' d => ?_⟩
    replace z : zf kpS h h' := by first | exact kI z (by decide) d | exact kL z (by decide) d
    clear d
  exact o_M_keepInputs (f_keep2 ha hb 4 0 rfl _ (fun h1 z1 => g_M_keepOperator_258 (k h1 (z.tr z1))))
theorem f_keep357 {a : Nat} (ha : a < 2) : ∀ (n j : Nat), j + n = 64 → ∀ h : zH, (∀ h1, zf kpS h h1 → K h1) → zAt m_M_keep 357 [some (.inr (.inr (22, 0, 0))), some (.inl (nI a)), some (.inl (nI j))] [] h (z_qV K) := by
  intro n
  induction n with
  | zero =>
    intro j hj h k
    have e : j = 64 := by omega
    subst e
    exact g_M_keep_357 ⟨fun c => absurd c (by decide), fun _ => ⟨vp_in_nI (by omega) (by decide), fun h1 d1 => k _ (kI zf.rf (by decide) d1)⟩⟩
  | succ n ih =>
    intro j hj h k
    refine g_M_keep_357 ⟨fun _ => ?_, fun c => absurd (nI_lt (b := 64) (by omega) (by decide)) c⟩
    rw [show (64 : Int32) = nI 64 from rfl, show (128 : Int32) = nI 128 from rfl, mad, nI_add]
    have va : vp_in (nI (128 + j)) 192 := vp_in_nI (by omega) (by decide)
    have vb : vp_in (nI (64 * a + j)) 192 := vp_in_nI (by omega) (by decide)
    refine ⟨va, vb, fun h1 d1 => ⟨va, vb, fun h2 d2 => ?_⟩⟩
    rw [← nI_succ]
    exact ih (j + 1) (by omega) h2 (fun h5 z5 => k h5 ((kI (kI zf.rf (by decide) d1) (by decide) d2).tr z5))
theorem f_keep203 {a : Nat} (ha : a < 2) : ∀ (n j : Nat), j + n = 16 → ∀ h : zH, (∀ h1, zf kpS h h1 → K h1) → zAt m_M_keep 203 [some (.inr (.inr (22, 0, 0))), some (.inl (nI a)), some (.inl (nI j))] [] h (z_qV K) := by
  intro n
  induction n with
  | zero =>
    intro j hj h k
    have e : j = 16 := by omega
    subst e
    exact g_M_keep_203 ⟨fun c => absurd c (by decide), fun _ => f_keep357 ha 64 0 rfl h k⟩
  | succ n ih =>
    intro j hj h k
    refine g_M_keep_203 ⟨fun _ => ?_, fun c => absurd (nI_lt (b := 16) (by omega) (by decide)) c⟩
    rw [show (16 : Int32) = nI 16 from rfl, show (32 : Int32) = nI 32 from rfl, mad, nI_add]
    have va : vp_in (nI (32 + j)) 48 := vp_in_nI (by omega) (by decide)
    have vb : vp_in (nI (16 * a + j)) 48 := vp_in_nI (by omega) (by decide)
    have z : zf kpS h h := zf.rf
    iterate 7
      refine ⟨va, vb, fun h' d => ?_⟩
      replace z : zf kpS h h' := by first | exact kI z (by decide) d | exact kL z (by decide) d
      clear d
    rw [← nI_succ]
    exact ih (j + 1) (by omega) _ (fun h5 z5 => k h5 (z.tr z5))
theorem f_keep166 {a : Nat} (ha : a < 2) : ∀ (n j : Nat), j + n = 2400 → ∀ h : zH, (∀ h1, zf kpS h h1 → K h1) → zAt m_M_keep 166 [some (.inr (.inr (22, 0, 0))), some (.inl (nI a)), some (.inl (nI j))] [] h (z_qV K) := by
  intro n
  induction n with
  | zero =>
    intro j hj h k
    have e : j = 2400 := by omega
    subst e
    exact g_M_keep_166 ⟨fun c => absurd c (by decide), fun _ => f_keep203 ha 16 0 rfl h k⟩
  | succ n ih =>
    intro j hj h k
    refine g_M_keep_166 ⟨fun _ => ?_, fun c => absurd (nI_lt (b := 2400) (by omega) (by decide)) c⟩
    rw [show (2400 : Int32) = nI 2400 from rfl, show (4800 : Int32) = nI 4800 from rfl, mad, nI_add]
    refine ⟨vp_in_nI (by omega) (by decide), vp_in_nI (by omega) (by decide), fun h1 d1 => ?_⟩
    rw [← nI_succ]
    exact ih (j + 1) (by omega) h1 (fun h5 z5 => k h5 ((kI zf.rf (by decide) d1).tr z5))
theorem f_keep98 {a : Nat} (ha : a < 2) : ∀ (n j : Nat), j + n = 40 → ∀ h : zH, (∀ h1, zf kpS h h1 → K h1) → zAt m_M_keep 98 [some (.inr (.inr (22, 0, 0))), some (.inl (nI a)), some (.inl (nI j))] [] h (z_qV K) := by
  intro n
  induction n with
  | zero =>
    intro j hj h k
    have e : j = 40 := by omega
    subst e
    exact g_M_keep_98 ⟨fun c => absurd c (by decide), fun _ => f_keep166 ha 2400 0 rfl h k⟩
  | succ n ih =>
    intro j hj h k
    refine g_M_keep_98 ⟨fun _ => ?_, fun c => absurd (nI_lt (b := 40) (by omega) (by decide)) c⟩
    rw [show (40 : Int32) = nI 40 from rfl, show (80 : Int32) = nI 80 from rfl, mad, nI_add]
    refine f_M_keepOperator (by omega) (by omega) (fun h1 z1 => g_M_keep_118 ?_)
    rw [show (40 : Int32) = nI 40 from rfl, show (80 : Int32) = nI 80 from rfl, mad, nI_add]
    have va : vp_in (nI (80 + j)) 120 := vp_in_nI (by omega) (by decide)
    have vb : vp_in (nI (40 * a + j)) 120 := vp_in_nI (by omega) (by decide)
    refine ⟨va, vb, fun h2 d2 => ⟨va, vb, fun h3 d3 => ?_⟩⟩
    rw [← nI_succ]
    exact ih (j + 1) (by omega) h3 (fun h5 z5 => k h5 ((kI (kI z1 (by decide) d2) (by decide) d3).tr z5))
theorem f_M_keep {h : zH} {a : Nat} (ha : a < 2) (m : mz h) (k : ∀ h1, h1.1 (117, 0, 0) (nI a).toNatClampNeg = 0 → K h1) : zOkV m_M_keep [.inr (.inr (22, 0, 0)), .inl (nI a)] h K := by
  have va : vp_in (nI a) 3 := vp_in_nI (by omega) (by decide)
  refine o_M_keep ⟨v23, va, fun h1 d1 => ?_⟩
  have e1 : h1.1 (117, 0, 0) (nI a).toNatClampNeg = 0 := by rw [d1, z_uI_s]; exact m.1
  clear d1
  have z : zf kpS h1 h1 := zf.rf
  iterate 7
    refine ⟨v23, va, fun h' d => ?_⟩
    replace z : zf kpS h1 h' := kI z (by decide) d
    clear d
  exact f_keep98 ha 40 0 rfl _ (fun h2 z2 => k h2 (((z.tr z2) _ _ (fun c => c rfl)).1.trans e1))
end FR5
section FR6
variable {h : zH} {K : Int32 → zH → Prop}
theorem f_M_read {n f : Nat} (hn : n < 2) (hf : f < 6) (e : h.1 (103, 0, 0) f = 0) (e7 : h.1 (22, 0, 0) 76 = 0) (k : ∀ h1, K 0 h1) : zOkI m_M_read [.inr (.inr (22, 0, 0)), .inl (nI n), .inl (nI f)] h K := by
  refine o_M_read (s_M_in (g_M_read_6 ⟨fun c => ?_, fun _ => s_M_in (g_M_read_15 ⟨fun c => ?_, fun _ h1 d1 h2 d2 h3 d3 => ?_⟩)⟩))
  · exact absurd (zb0.mp c) (fun z => z (isj.mpr ⟨nI_pos (by omega), nI_lt (b := 2) hn (by decide)⟩))
  · exact absurd (zb0.mp c) (fun z => z ⟨nI_pos (by omega), fun y => absurd ((nI_ltI (a := 5) (by decide) (by omega)).mp y) (by omega)⟩)
  · have e' : h3.1 (103, 0, 0) f = 0 := by
      subst d3 d2 d1
      simpa [z_uI_at] using e
    have e7' : h3.1 (22, 0, 0) 76 = 0 := by
      subst d3 d2 d1
      simpa [z_uI_at] using e7
    refine f_M_readText hf e' e7' (fun h4 m4 => g_M_read_42 ⟨fun c => absurd c (by decide), fun _ => f_M_judge m4 (fun h5 m5 => g_M_read_49 ⟨fun c => absurd c (by decide), fun _ => g_M_read_65 ?_⟩)⟩)
    rw [m5.1, m5.2.2]
    refine ⟨v23, fun c => absurd c (by decide), fun _ => ⟨fun c => absurd c (by decide), fun _ => g_M_read_125 ?_⟩⟩
    rw [m5.1]
    refine ⟨v23, fun c => absurd c (by decide), fun _ => f_M_keep hn m5 (fun h6 e6 => g_M_read_193 ?_)⟩
    rw [e6]
    exact ⟨vp_in_nI (by omega) (by decide), k h6⟩
theorem F_read {K : Int32 → Int32 → zH → Prop} {x y : Int32} (a : fr h) (k : ∀ r h1, K r r h1) : zOkI m_J_read [.inr (.inr (21, 0, 0)), .inl x, .inl y] h (fun r h1 => zOkI m_M_read [.inr (.inr (22, 0, 0)), .inl x, .inl y] h1 (fun r' h2 => K r r' h2)) := by
  refine f_J_read a (fun b => ?_) (fun n f hn en hf ef h1 z1 => ?_)
  · have i6 : ∀ {y : Int32}, (¬ y < 0 ∧ ¬ 5 < y) ↔ (¬ y < 0 ∧ y < 6) := fun {y} => by
      rw [Int32.lt_iff_toInt_lt, Int32.lt_iff_toInt_lt, Int32.lt_iff_toInt_lt, show (5 : Int32).toInt = 5 from rfl, show (6 : Int32).toInt = 6 from rfl]
      omega
    refine o_M_read (s_M_in (g_M_read_6 ⟨fun _ => k _ _, fun c => s_M_in (g_M_read_15 ⟨fun _ => k _ _, fun d => absurd ⟨isj.mp (zb1.mp c), i6.mp (zb1.mp d)⟩ b⟩)⟩))
  · subst en ef
    have nc : ∀ {q : zR} {j : Nat}, q.1 = 22 ∨ 100 ≤ q.1 → ¬ cS q j := fun hq c => by
      rcases hq with e | e
      · exact c.1 e
      · exact absurd c.2 (by omega)
    exact f_M_read hn hf ((z1 _ _ (nc (Or.inr (by decide)))).1.trans ((a.1.2.1 f hf).2.1.1)) ((z1 _ _ (nc (Or.inl rfl))).1.trans a.2.1.2) (fun h2 => k _ _)
end FR6
