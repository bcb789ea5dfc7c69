/-! ===== read on a fresh object: the model reads an empty file ===== -/
/-- the model's new job is empty -/
def mz (h : zH) : Prop := h.1 (117, 0, 0) (2 : Int32).toNatClampNeg = 0 ∧ h.1 (119, 0, 0) (2 : Int32).toNatClampNeg = 0 ∧ h.1 (22, 0, 0) 76 = 0
/-- the model stands at the beginning of an empty file -/
def m0 (f : Nat) (h : zH) : Prop := h.1 (22, 0, 0) 9 = 0 ∧ h.1 (110, 0, 0) (0 : Int32).toNatClampNeg = nI f ∧ h.1 (111, 0, 0) (0 : Int32).toNatClampNeg = 0 ∧ h.1 (103, 0, 0) f = 0
theorem v23 : vp_in (2 : Int32) 3 := vp_in_nI (n := 2) (by decide) (by decide)
theorem v08 : vp_in (0 : Int32) 8 := vp_in_nI (n := 0) (by decide) (by decide)
section FR3
variable {h : zH} {K : Int32 → zH → Prop} {f : Nat}
theorem f_M_byteAt (hf : f < 6) (a : m0 f h) (k : K (-5) h) : zOkI m_M_byteAt [.inr (.inr (22, 0, 0)), .inl 0] h K := by
  obtain ⟨a1, a2, a3, a4⟩ := a
  refine o_M_byteAt ?_
  rw [a1, a2, nI_clamp (by omega), a4]
  exact ⟨v08, vp_in_nI hf (by decide), fun c => absurd c (by decide), fun _ => k⟩
theorem f_M_pass (hf : f < 6) (a : m0 f h) (k : K 1 (z_uI h (111, 0, 0) (0 : Int32).toNatClampNeg 0)) : zOkI m_M_pass [.inr (.inr (22, 0, 0))] h K := by
  refine o_M_pass ?_
  rw [a.1, a.2.2.1]
  refine ⟨v08, f_M_byteAt hf a (g_M_pass_15 (g_M_pass_16 ⟨fun c => absurd c (by decide), fun _ => ⟨fun c => absurd c (by decide), fun _ => ⟨fun c => absurd c (by decide), fun _ => ?_⟩⟩⟩))⟩
  rw [a.1]
  exact ⟨v08, fun h1 d1 => ⟨Or.inr rfl, by subst d1; exact k⟩⟩
theorem f_M_look (hf : f < 6) (a : m0 f h) (k : K 1 (z_uI (z_uI (z_uI (z_uI h (111, 0, 0) (0 : Int32).toNatClampNeg 0) (22, 0, 0) 7 (nI f)) (22, 0, 0) 8 0) (22, 0, 0) 4 8)) : zOkI m_M_look [.inr (.inr (22, 0, 0))] h K := by
  have a' : m0 f (z_uI h (111, 0, 0) (0 : Int32).toNatClampNeg 0) := ⟨by simpa [z_uI_at] using a.1, by simpa [z_uI_at] using a.2.1, by simp [z_uI_at], by simpa [z_uI_at] using a.2.2.2⟩
  refine o_M_look (f_M_pass hf a (g_M_look_4 ⟨fun c => absurd c (by decide), fun _ => ?_⟩))
  generalize z_uI h (111, 0, 0) (0 : Int32).toNatClampNeg 0 = h' at *
  rw [a'.1, a'.2.2.1]
  refine ⟨v08, f_M_byteAt hf a' (g_M_look_26 ?_)⟩
  rw [a'.1, a'.2.1]
  exact ⟨v08, fun h1 d1 h2 d2 => ⟨fun _ h4 d4 => ⟨Or.inr rfl, by subst d4 d2 d1; exact k⟩, fun c => absurd rfl c⟩⟩
theorem f_M_want (hf : f < 6) (a : m0 f h) (k : K 1 (z_uI (z_uI (z_uI (z_uI h (111, 0, 0) (0 : Int32).toNatClampNeg 0) (22, 0, 0) 7 (nI f)) (22, 0, 0) 8 0) (22, 0, 0) 4 8)) : zOkI m_M_want [.inr (.inr (22, 0, 0)), .inl 16128] h K := by
  refine o_M_want (f_M_look hf a (g_M_want_4 ⟨fun c => absurd c (by decide), fun _ => ?_⟩))
  rw [z_uI_s]
  exact ⟨fun c => absurd c (by decide), fun _ => ⟨fun c => absurd c (by decide), fun _ => ⟨Or.inr rfl, k⟩⟩⟩
theorem f_M_readText (hf : f < 6) (e : h.1 (103, 0, 0) f = 0) (e7 : h.1 (22, 0, 0) 76 = 0) (k : ∀ h1, mz h1 → K 1 h1) : zOkI m_M_readText [.inr (.inr (22, 0, 0)), .inl (nI f)] h K := by
  refine o_M_readText (fun h1 d1 => ⟨v08, fun h2 d2 => ⟨v08, fun h3 d3 => o_M_empty ⟨v23, fun h4 d4 => ⟨v23, fun h5 d5 => ⟨v23, fun h6 d6 => ⟨v23, fun h7 d7 => ⟨v23, fun h8 d8 h9 d9 => g_M_readText_23 (f_M_want hf ?_ (g_M_readText_30 ⟨fun c => absurd c (by decide), fun _ => ?_⟩))⟩⟩⟩⟩⟩⟩⟩)
  · subst d9 d8 d7 d6 d5 d4 d3 d2 d1
    exact ⟨by simp [z_uI_at], by simp [z_uI_at], by simp [z_uI_at], by simpa [z_uI_at] using e⟩
  · have m9 : mz h9 ∧ h9.1 (22, 0, 0) 9 = 0 := by
      subst d9 d8 d7 d6 d5 d4 d3 d2 d1
      exact ⟨⟨by simp [z_uI_at], by simp [z_uI_at], by simpa [z_uI_at] using e7⟩, by simp [z_uI_at]⟩
    clear d1 d2 d3 d4 d5 d6 d7 d8 d9
    have no : ∀ {j : Int32}, (8 : Int32) ≠ j → (8 : Int32) = j → False := fun h1 h2 => h1 h2
    rw [z_uI_s]
    refine ⟨⟨fun _ => ⟨fun _ => ⟨Or.inr rfl, k _ ⟨?_, ?_, ?_⟩⟩, fun c => absurd ?_ c⟩, fun c => absurd c (by decide), fun c => absurd c (by decide), fun c => absurd c (by decide), fun c => absurd c (by decide), fun c => absurd c (by decide), trivial⟩, fun c => absurd c (by decide)⟩
    · simpa [z_uI_at] using m9.1.1
    · simpa [z_uI_at] using m9.1.2.1
    · simpa [z_uI_at] using m9.1.2.2
    · simpa [z_uI_at] using m9.2
end FR3
