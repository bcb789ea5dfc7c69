/-! ===== read on a fresh object: an empty file ===== -/
/-- the component's own cells -/
def cS (q : zR) (_ : Nat) : Prop := q.1 ≠ 22 ∧ q.1 < 100
/-- what goes on holding while the component reads -/
def rs (h : zH) : Prop := h.1 (11, 0, 0) 0 = 0 ∧ h.2.2 (21, 0, 0) 4 = some (14, 2, 0) ∧ (∀ b, b < 2 → h.2.2 (32, 0, 0) b = some (14, b, 0)) ∧ h.1 (21, 0, 0) 9 = 0 ∧ ∀ f, f < 6 → h.1 (10, 0, f) 1 = 0
def jz (h : zH) : Prop := h.1 (14, 2, 0) 2 = 0 ∧ h.1 (14, 2, 0) 4 = 0 ∧ h.1 (14, 2, 0) 6 = 0
theorem bt0 {h : zH} {f : Nat} (e : h.1 (10, 0, f) 1 = 0) : bt h 0 f [] := ⟨e, Nat.zero_le _, fun k hk => by cases hk⟩
theorem f_S_here {h : zH} {K : Int32 → zH → Prop} {f : Nat} (hf : f < 6) (e9 : h.1 (20, 0, 0) 9 = nI f) (e1 : h.1 (10, 0, f) 1 = 0) (e7 : h.1 (20, 0, 0) 7 = 0) (k : K (-5) h) : zOkI m_S_here [.inr (.inr (20, 0, 0))] h K := by
  refine o_S_here ?_
  rw [e9, e7, nI_clamp (by omega)]
  refine ⟨vp_in_nI hf (by decide), s_B_at (bt0 e1) (g_S_here_16 ?_)⟩
  exact k
theorem f_S_skip {h : zH} {K : zH → Prop} {f : Nat} (hf : f < 6) (e9 : h.1 (20, 0, 0) 9 = nI f) (e1 : h.1 (10, 0, f) 1 = 0) (e7 : h.1 (20, 0, 0) 7 = 0) (e0 : h.1 (11, 0, 0) 0 = 0) (k : K h) : zOkV m_S_skipToToken [.inr (.inr (20, 0, 0))] h K := by
  refine o_S_skipToToken (g_S_skipToToken_2 ⟨fun c => absurd c (by decide), fun _ => ⟨fun _ => f_S_here hf e9 e1 e7 (g_S_skipToToken_23 ⟨fun c => absurd c (by decide), fun _ => ⟨fun c => absurd c (by decide), fun _ => ⟨fun c => absurd c (by decide), fun _ => k⟩⟩⟩), fun c => absurd e0 c⟩⟩)
theorem f_S_look {h : zH} {K : zH → Prop} {f : Nat} (hf : f < 6) (e9 : h.1 (20, 0, 0) 9 = nI f) (e1 : h.1 (10, 0, f) 1 = 0) (e7 : h.1 (20, 0, 0) 7 = 0) (k : K (z_uI (z_uI h (20, 0, 0) 10 0) (20, 0, 0) 8 256)) : zOkV m_S_look [.inr (.inr (20, 0, 0))] h K := by
  refine o_S_look (fun h1 d1 => ?_)
  rw [e7] at d1
  subst d1
  refine f_S_here hf (by simpa [z_uI_at] using e9) (by simpa [z_uI_at] using e1) (by simpa [z_uI_at] using e7) (g_S_look_12 ⟨fun _ h2 d2 => ?_, fun c => absurd rfl c⟩)
  subst d2
  exact k
theorem f_S_close {h : zH} {K : zH → Prop} (e6 : h.1 (20, 0, 0) 6 = 1) (k : K (z_uI h (20, 0, 0) 6 0)) : zOkV m_S_close [.inr (.inr (20, 0, 0))] h K := by
  refine o_S_close ⟨fun _ h1 d1 => g_S_close_17 ⟨fun c => ?_, fun _ => ?_⟩, fun c => absurd (by rw [e6]; decide) c⟩
  · rw [d1, z_uI_s, e6] at c
    exact absurd c (by decide)
  · rw [e6] at d1
    subst d1
    exact k
theorem f_R_meet {h : zH} {K : zH → Prop} (e3 : h.1 (19, 0, 0) 3 = 0) (e8 : h.1 (20, 0, 0) 8 = 256) (e6 : h.1 (20, 0, 0) 6 = 1) (k : K (z_uI h (20, 0, 0) 6 0)) : zOkV m_R_meetToken [.inr (.inr (19, 0, 0))] h K := by
  refine o_R_meetToken ?_
  rw [e3]
  refine ⟨vp_in_nI (n := 0) (by decide) (by decide), fun _ => g_R_meetToken_25 ?_, fun c => absurd (by decide) c⟩
  rw [e8, e3]
  refine ⟨fun c => absurd c (by decide), fun _ => ⟨fun _ => o_R_beginStatement ⟨fun _ => f_S_close e6 (g_R_beginStatement_20 (g_R_meetToken_64 k)), fun c => absurd e8 c⟩, fun c => absurd rfl c⟩⟩
theorem f_R_readText {h : zH} {K : zH → Prop} {f : Nat} (a : rs h) (hf : f < 6) (k : ∀ h1, rs h1 → jz h1 → zf cS h h1 → K h1) : zOkV m_R_readText [.inr (.inr (19, 0, 0)), .inr (.inr (14, 2, 0)), .inl (nI f)] h K := by
  obtain ⟨a1, a2, a3, a4, a5⟩ := a
  have cs : ∀ {kd i j kk : Nat}, kd ≠ 22 → kd < 100 → cS (kd, i, j) kk := fun h1 h2 => ⟨h1, h2⟩
  refine o_R_readText (fun h1 d1 => ⟨2, 0, by rw [d1, z_uR_s], ?_⟩)
  refine o_K_clear (fun h2 d2 h3 d3 h4 d4 h5 d5 h6 d6 => g_R_readText_12 (fun h7 d7 h8 d8 => ⟨2, 0, ?_, ?_⟩))
  · subst d8 d7 d6 d5 d4 d3 d2 d1
    simp [z_uI_R, z_uR_at]
  · refine o_S_begin (fun h9 d9 h10 d10 => o_S_open ⟨fun _ => s_J_isFile (g_S_open_13 ⟨fun c => ?_, fun _ => ⟨fun c => ?_, fun _ => g_S_open_39 ⟨?_, fun h11 d11 h12 d12 h13 d13 h14 d14 => g_S_begin_15 (g_R_readText_34 ?_)⟩⟩⟩), fun c => ?_⟩)
    · exact absurd (zb0.mp c) (fun z => z ⟨nI_pos (by omega), nI_lt (b := 6) hf (by decide)⟩)
    · rw [d10, z_uI_s] at c
      exact absurd c (by decide)
    · rw [d10, z_uI_s]
      exact vp_in_nI (n := 0) (by decide) (by decide)
    · have e6 : h14.1 (20, 0, 0) 6 = 1 := by
        subst d14 d13 d12 d11 d10
        simp [z_uI_at]
      have e9 : h14.1 (20, 0, 0) 9 = nI f := by
        subst d14 d13
        simp [z_uI_at]
      have e7 : h14.1 (20, 0, 0) 7 = 0 := by
        subst d14
        simp [z_uI_at]
      have e3 : h14.1 (19, 0, 0) 3 = 0 := by
        subst d14 d13 d12 d11 d10 d9 d8
        simp [z_uI_at, z_uR_I]
      have a0 : h14.1 (11, 0, 0) 0 = 0 := by
        subst d14 d13 d12 d11 d10 d9 d8 d7 d6 d5 d4 d3 d2 d1
        simpa [z_uI_at, z_uR_I] using a1
      have ef : ∀ g, g < 6 → h14.1 (10, 0, g) 1 = 0 := by
        intro g hg
        subst d14 d13 d12 d11 d10 d9 d8 d7 d6 d5 d4 d3 d2 d1
        simpa [z_uI_at, z_uR_I] using a5 g hg
      have b2 : h14.2.2 (21, 0, 0) 4 = some (14, 2, 0) := by
        subst d14 d13 d12 d11 d10 d9 d8 d7 d6 d5 d4 d3 d2 d1
        simpa [z_uI_R, z_uR_at] using a2
      have b3 : ∀ b, b < 2 → h14.2.2 (32, 0, 0) b = some (14, b, 0) := by
        intro b hb
        subst d14 d13 d12 d11 d10 d9 d8 d7 d6 d5 d4 d3 d2 d1
        simpa [z_uI_R, z_uR_at] using a3 b hb
      have b4 : h14.1 (21, 0, 0) 9 = 0 := by
        subst d14 d13 d12 d11 d10 d9 d8 d7 d6 d5 d4 d3 d2 d1
        simpa [z_uI_at, z_uR_I] using a4
      have j1 : jz h14 := by
        subst d14 d13 d12 d11 d10 d9 d8 d7 d6 d5 d4 d3 d2 d1
        refine ⟨?_, ?_, ?_⟩ <;> simp [z_uI_at, z_uR_I]
      have fz : zf cS h h14 := by
        subst d14 d13 d12 d11 d10 d9 d8 d7 d6 d5 d4 d3 d2 d1
        refine (((((((((((((zf.uR ?_).tr (zf.uI ?_)).tr (zf.uI ?_)).tr (zf.uI ?_)).tr (zf.uI ?_)).tr (zf.uI ?_)).tr (zf.uI ?_)).tr (zf.uI ?_)).tr (zf.uR ?_)).tr (zf.uI ?_)).tr (zf.uI ?_)).tr (zf.uI ?_)).tr (zf.uI ?_)).tr (zf.uI ?_) <;> exact cs (by decide) (by decide)
      refine g_R_readText_36 ⟨fun _ => ⟨fun _ => ⟨fun _ => f_S_skip hf e9 (ef f hf) e7 a0 (g_R_readText_69 ⟨fun _ => f_S_look hf e9 (ef f hf) e7 (g_R_readText_86 (f_R_meet ?_ ?_ ?_ (g_R_readText_90 (g_R_readText_36 ⟨fun _ => ⟨fun c => ?_, fun _ => ?_⟩, fun c => absurd (by decide) c⟩)))), fun c => absurd a0 c⟩), fun c => absurd a0 c⟩, fun c => absurd (by rw [e6]; decide) c⟩, fun c => absurd (by decide) c⟩
      · simpa [z_uI_at] using e3
      · simp [z_uI_at]
      · simpa [z_uI_at] using e6
      · rw [z_uI_s] at c
        exact absurd c (by decide)
      · refine k _ ⟨by simpa [z_uI_at] using a0, by simpa [z_uI_R] using b2, fun b hb => by simpa [z_uI_R] using b3 b hb, by simpa [z_uI_at] using b4, fun g hg => by simpa [z_uI_at] using ef g hg⟩ ?_ (fz.tr (((zf.uI (cs (by decide) (by decide))).tr (zf.uI (cs (by decide) (by decide)))).tr (zf.uI (cs (by decide) (by decide)))))
        exact ⟨by simpa [z_uI_at] using j1.1, by simpa [z_uI_at] using j1.2.1, by simpa [z_uI_at] using j1.2.2⟩
    · rw [d10, z_uI_s] at c
      exact absurd (by decide) c
