/-! ===== read on a fresh object: the model's judging of nothing ===== -/
section FR4
variable {h : zH} {K : Int32 → zH → Prop}
theorem mz.zf {S : zR → Nat → Prop} {h1 : zH} (m : mz h) (z : zf S h h1) (n1 : ∀ k, ¬ S (117, 0, 0) k) (n2 : ∀ k, ¬ S (119, 0, 0) k) (n3 : ¬ S (22, 0, 0) 76) : mz h1 := ⟨(z _ _ (n1 _)).1.trans m.1, (z _ _ (n2 _)).1.trans m.2.1, (z _ _ n3).1.trans m.2.2⟩
theorem f_M_judgeOperators (m : mz h) (k : K 1 h) : zOkI m_M_judgeOperators [.inr (.inr (22, 0, 0))] h K := by
  refine o_M_judgeOperators (g_M_judgeOperators_3 ?_)
  rw [m.1]
  exact ⟨v23, fun c => absurd c (by decide), fun _ => ⟨Or.inr rfl, k⟩⟩
theorem f_M_judgeLoops (m : mz h) (k : K 1 h) : zOkI m_M_judgeLoops [.inr (.inr (22, 0, 0))] h K := by
  refine o_M_judgeLoops (g_M_judgeLoops_2 ?_)
  rw [m.2.1]
  exact ⟨v23, fun c => absurd c (by decide), fun _ => ⟨Or.inr rfl, k⟩⟩
def coS (q : zR) (_ : Nat) : Prop := q = (173, 0, 0)
theorem f_M_comes {K : zH → Prop} : ∀ (n j : Nat), j + n = 1600 → ∀ h : zH, (∀ h1, zf coS h h1 → K h1) → zAt m_M_findComes 9 [some (.inr (.inr (22, 0, 0))), some (.inl 0), some (.inl (nI j)), none, none] [] h (z_qV K) := by
  intro n
  induction n with
  | zero =>
    intro j hj h k
    have e : j = 1600 := by omega
    subst e
    exact g_M_findComes_9 ⟨fun c => absurd c (by decide), fun _ => g_M_findComes_31 ⟨fun c => absurd c (by decide), fun _ => g_M_findComes_89 ⟨fun c => absurd c (by decide), fun _ => k _ zf.rf⟩⟩⟩
  | succ n ih =>
    intro j hj h k
    refine g_M_findComes_9 ⟨fun _ => ⟨vp_in_nI (by omega) (by decide), fun h1 d1 => ?_⟩, fun c => absurd (nI_lt (b := 1600) (by omega) (by decide)) c⟩
    rw [← nI_succ]
    refine ih (j + 1) (by omega) h1 (fun h2 z2 => k h2 (zf.tr ?_ z2))
    subst d1
    exact zf.uI rfl
theorem f_M_judgeRings (m : mz h) (k : ∀ h1, mz h1 → K 1 h1) : zOkI m_M_judgeRings [.inr (.inr (22, 0, 0))] h K := by
  refine o_M_judgeRings (o_M_findComes ?_)
  rw [m.1]
  refine ⟨v23, f_M_comes 1600 0 rfl h (fun h1 z1 => g_M_judgeRings_4 (g_M_judgeRings_6 ?_))⟩
  have m1 : mz h1 := m.zf z1 (fun _ c => by cases c) (fun _ c => by cases c) (fun c => by cases c)
  rw [m1.1]
  refine ⟨v23, fun c => absurd c (by decide), fun _ => g_M_judgeRings_61 ?_⟩
  rw [m1.2.1]
  exact ⟨v23, fun c => absurd c (by decide), fun _ => ⟨Or.inr rfl, k h1 m1⟩⟩
theorem f_M_layOut {K : zH → Prop} (m : mz h) (k : K h) : zOkV m_M_layOut [.inr (.inr (22, 0, 0))] h K := by
  refine o_M_layOut ?_
  rw [m.1]
  exact ⟨v23, g_M_layOut_12 ⟨fun c => absurd c (by decide), fun _ => g_M_layOut_35 ⟨fun c => absurd c (by decide), fun _ => k⟩⟩⟩
theorem f_M_judgeKeys (m : mz h) (k : K 1 h) : zOkI m_M_judgeKeys [.inr (.inr (22, 0, 0))] h K := by
  refine o_M_judgeKeys (g_M_judgeKeys_2 ?_)
  rw [m.1]
  exact ⟨v23, fun c => absurd c (by decide), fun _ => ⟨Or.inr rfl, k⟩⟩
theorem f_M_findChains {K : zH → Prop} (m : mz h) (k : ∀ h1, mz h1 → K h1) : zOkV m_M_findChains [.inr (.inr (22, 0, 0))] h K := by
  refine o_M_findChains ⟨v23, fun h1 d1 => ⟨v23, fun h2 d2 => ⟨v23, fun h3 d3 => g_M_findChains_23 ?_⟩⟩⟩
  have m3 : mz h3 := by
    subst d3 d2 d1
    exact ⟨by simpa [z_uI_at] using m.1, by simpa [z_uI_at] using m.2.1, by simpa [z_uI_at] using m.2.2⟩
  rw [m3.1]
  refine ⟨v23, fun c => absurd c (by decide), fun _ => g_M_findChains_176 ?_⟩
  rw [m3.2.1]
  exact ⟨v23, fun c => absurd c (by decide), fun _ => k h3 m3⟩
theorem f_M_judge (m : mz h) (k : ∀ h1, mz h1 → K 1 h1) : zOkI m_M_judge [.inr (.inr (22, 0, 0))] h K := by
  refine o_M_judge (f_M_judgeOperators m (g_M_judge_4 ⟨fun c => absurd c (by decide), fun _ => f_M_judgeLoops m (g_M_judge_11 ⟨fun c => absurd c (by decide), fun _ => f_M_judgeRings m (fun h1 m1 => g_M_judge_18 ⟨fun c => absurd c (by decide), fun _ => f_M_layOut m1 (g_M_judge_27 (f_M_judgeKeys m1 (g_M_judge_31 ⟨fun c => absurd c (by decide), fun _ => g_M_judge_38 ?_⟩)))⟩)⟩)⟩))
  rw [m1.1]
  exact ⟨v23, fun c => absurd c (by decide), fun _ => f_M_findChains m1 (fun h2 m2 => g_M_judge_74 ⟨Or.inr rfl, k h2 m2⟩)⟩
end FR4
