/-! ===== read on a fresh object: the component's judging, numbering and laying out of nothing ===== -/
theorem n00 {x : Int32} (e : x = 0) : ¬ (0 : Int32) < x := by rw [e]; decide
section FR2
variable {h : zH} {K : zH → Prop}
theorem f_U_findOrigins (j : jz h) (k : K h) : zOkV m_U_findOrigins [.inr (.inr (15, 0, 0)), .inr (.inr (14, 2, 0))] h K :=
  o_U_findOrigins (g_U_findOrigins_2 ⟨fun c => absurd c (n00 j.1), fun _ => g_U_findOrigins_71 ⟨fun c => absurd c (n00 j.1), fun _ => k⟩⟩)
theorem f_U_judgeCycles (j : jz h) (k : K h) : zOkV m_U_judgeCycles [.inr (.inr (15, 0, 0)), .inr (.inr (14, 2, 0))] h K :=
  o_U_judgeCycles (g_U_judgeCycles_2 ⟨fun c => absurd c (n00 j.1), fun _ => k⟩)
theorem f_U_judgeKeys (j : jz h) (k : K h) : zOkV m_U_judgeKeys [.inr (.inr (15, 0, 0)), .inr (.inr (14, 2, 0))] h K :=
  o_U_judgeKeys (g_U_judgeKeys_2 ⟨fun c => absurd c (n00 j.1), fun _ => k⟩)
theorem jz.u (j : jz h) {a b : Nat} {x : Int32} : jz (z_uI h (16, a, 0) b x) := ⟨by simpa [z_uI_at] using j.1, by simpa [z_uI_at] using j.2.1, by simpa [z_uI_at] using j.2.2⟩
theorem rs.u (a : rs h) {i b : Nat} {x : Int32} : rs (z_uI h (16, i, 0) b x) := ⟨by simpa [z_uI_at] using a.1, by simpa [z_uI_R] using a.2.1, fun c hc => by simpa [z_uI_R] using a.2.2.1 c hc, by simpa [z_uI_at] using a.2.2.2.1, fun g hg => by simpa [z_uI_at] using a.2.2.2.2 g hg⟩
theorem f_Y_arrange (j : jz h) (k : K (z_uI h (16, 2, 0) 11 0)) : zOkV m_Y_arrange [.inr (.inr (16, 2, 0)), .inr (.inr (14, 2, 0))] h K := by
  refine o_Y_arrange (fun h1 d1 => ?_)
  subst d1
  exact g_Y_arrange_7 ⟨fun c => absurd c (n00 j.u.1), fun _ => g_Y_arrange_31 ⟨fun c => absurd c (n00 j.u.1), fun _ => k⟩⟩
theorem f_U_judgeText (a : rs h) (j : jz h) (k : K (z_uI h (16, 2, 0) 11 0)) : zOkV m_U_judgeText [.inr (.inr (15, 0, 0)), .inr (.inr (14, 2, 0))] h K := by
  refine o_U_judgeText (g_U_judgeText_2 ⟨fun c => absurd c (n00 j.1), fun _ => g_U_judgeText_39 ⟨fun c => absurd c (n00 j.2.2), fun _ => g_U_judgeText_74 ⟨fun _ => f_U_findOrigins j (g_U_judgeText_89 (f_U_judgeCycles j (g_U_judgeText_94 (g_U_judgeText_96 ⟨fun c => absurd c (n00 j.2.2), fun _ => g_U_judgeText_130 ⟨fun _ => ?_, fun c => absurd a.1 c⟩⟩)))), fun c => absurd a.1 c⟩⟩⟩)
  exact f_Y_arrange j (g_U_judgeText_148 (f_U_judgeKeys j.u (g_U_judgeText_153 k)))
theorem f_J_newNames {K : Int32 → zH → Prop} (j : jz h) (k : K 0 h) : zOkI m_J_newNames [.inr (.inr (21, 0, 0)), .inr (.inr (14, 2, 0))] h K :=
  o_J_newNames (g_J_newNames_4 ⟨fun c => absurd c (n00 j.1), fun _ => k⟩)
theorem f_J_giveNumbers (j : jz h) (k : K h) : zOkV m_J_giveNumbers [.inr (.inr (21, 0, 0)), .inr (.inr (14, 2, 0))] h K :=
  o_J_giveNumbers (g_J_giveNumbers_2 ⟨fun c => absurd c (n00 j.1), fun _ => k⟩)
theorem f_Y_countReaders (j : jz h) (k : K h) : zOkV m_Y_countReaders [.inr (.inr (16, 2, 0)), .inr (.inr (14, 2, 0))] h K :=
  o_Y_countReaders (g_Y_countReaders_2 ⟨fun c => absurd c (n00 j.1), fun _ => g_Y_countReaders_32 ⟨fun c => absurd c (n00 j.1), fun _ => g_Y_countReaders_124 ⟨fun c => absurd c (n00 j.2.2), fun _ => k⟩⟩⟩)
theorem f_Y_findChains (j : jz h) (k : K (z_uI (z_uI h (16, 2, 0) 12 0) (16, 2, 0) 13 0)) : zOkV m_Y_findChains [.inr (.inr (16, 2, 0)), .inr (.inr (14, 2, 0))] h K := by
  refine o_Y_findChains (fun h1 d1 h2 d2 => ?_)
  subst d2 d1
  exact g_Y_findChains_12 ⟨fun c => absurd c (n00 j.u.u.1), fun _ => k⟩
theorem f_Y_countChannels (j : jz h) (k : K (z_uI h (16, 2, 0) 14 0)) : zOkV m_Y_countChannels [.inr (.inr (16, 2, 0)), .inr (.inr (14, 2, 0))] h K := by
  refine o_Y_countChannels (fun h1 d1 => ?_)
  subst d1
  exact g_Y_countChannels_7 ⟨fun c => absurd c (n00 j.u.1), fun _ => g_Y_countChannels_82 ⟨fun c => absurd c (n00 j.u.2.2), fun _ => k⟩⟩
theorem f_Y_reckon (a : rs h) (j : jz h) (k : ∀ h1, rs h1 → jz h1 → zf cS h h1 → K h1) : zOkV m_Y_reckon [.inr (.inr (16, 2, 0)), .inr (.inr (14, 2, 0))] h K := by
  have cs : ∀ {kd i j kk : Nat}, kd ≠ 22 → kd < 100 → cS (kd, i, j) kk := fun h1 h2 => ⟨h1, h2⟩
  refine o_Y_reckon (g_Y_reckon_2 ⟨fun c => absurd c (n00 j.1), fun _ => f_Y_countReaders j (g_Y_reckon_39 (f_Y_findChains j (g_Y_reckon_44 (f_Y_countChannels j.u.u (g_Y_reckon_49 ?_)))))⟩)
  refine k _ a.u.u.u j.u.u.u (((zf.uI ?_).tr (zf.uI ?_)).tr (zf.uI ?_)) <;> exact cs (by decide) (by decide)
/-- the component reads an empty file: answer 0 -/
theorem f_J_read {K : Int32 → zH → Prop} {x y : Int32} (a : fr h) (kb : ¬ ((¬ x < 0 ∧ x < 2) ∧ (¬ y < 0 ∧ y < 6)) → K (-1) h) (kg : ∀ n f : Nat, n < 2 → x = nI n → f < 6 → y = nI f → ∀ h1, zf cS h h1 → K 0 h1) : zOkI m_J_read [.inr (.inr (21, 0, 0)), .inl x, .inl y] h K := by
  have cs : ∀ {kd i j kk : Nat}, kd ≠ 22 → kd < 100 → cS (kd, i, j) kk := fun h1 h2 => ⟨h1, h2⟩
  refine o_J_read (s_J_isJob (g_J_read_4 ⟨fun c => kb (fun z => zb0.mp c z.1), fun c => s_J_isFile (g_J_read_11 ⟨fun d => kb (fun z => zb0.mp d z.2), fun d => ?_⟩)⟩))
  obtain ⟨n, hn, rfl⟩ := isj_nI (zb1.mp c)
  have d' := zb1.mp d
  obtain ⟨f, hf0, rfl⟩ := nI_of d'.1
  have hf : f < 6 := (nI_ltI (b := 6) hf0 (by decide)).mp d'.2
  have r0 : rs h := by
    obtain ⟨t, b9, -, b11, -, b32, -, -⟩ := a
    refine ⟨b11.1, b32.2.2, fun b hb => ?_, b9.1, fun f hf => (t.2.1 f hf).1.1⟩
    rcases (show b = 0 ∨ b = 1 by omega) with e | e <;> subst e
    · exact b32.1
    · exact b32.2.1
  refine o_F_clear (fun h1 d1 h2 d2 h3 d3 h4 d4 => ?_)
  have r4 : rs h4 := by
    obtain ⟨a1, a2, a3, a4, a5⟩ := r0
    subst d4 d3 d2 d1
    exact ⟨by simp [z_uI_at], by simpa [z_uI_R] using a2, fun c hc => by simpa [z_uI_R] using a3 c hc, by simpa [z_uI_at] using a4, fun g hg => by simpa [z_uI_at] using a5 g hg⟩
  have z4 : zf cS h h4 := by
    subst d4 d3 d2 d1
    refine (((zf.uI ?_).tr (zf.uI ?_)).tr (zf.uI ?_)).tr (zf.uI ?_) <;> exact cs (by decide) (by decide)
  clear d1 d2 d3 d4
  refine g_J_read_23 ⟨2, 0, r4.2.1, f_R_readText r4 hf (fun h5 r5 j5 z5 => g_J_read_35 ⟨fun _ => ⟨2, 0, r5.2.1, f_U_judgeText r5 j5 ?_⟩, fun c => absurd r5.1 c⟩)⟩
  have r6 := r5.u (i := 2) (b := 11) (x := 0)
  have j6 := j5.u (a := 2) (b := 11) (x := 0)
  have z6 : zf cS h (z_uI h5 (16, 2, 0) 11 0) := (z4.tr z5).tr (zf.uI (cs (by decide) (by decide)))
  generalize z_uI h5 (16, 2, 0) 11 0 = h6 at *
  refine g_J_read_56 ⟨fun _ => ⟨2, 0, r6.2.1, f_J_newNames j6 ?_⟩, fun c => absurd r6.1 c⟩
  rw [r6.2.2.2.1]
  refine g_J_read_89 ⟨fun c => absurd c (by decide), fun _ => ⟨2, 0, r6.2.1, f_J_giveNumbers j6 (g_J_read_107 ⟨2, 0, r6.2.1, 2, 0, r6.2.1, f_Y_reckon r6 j6 (fun h7 r7 j7 z7 => g_J_read_121 ?_)⟩)⟩⟩
  refine o_J_putJob ?_
  rw [nI_clamp (by omega)]
  refine ⟨vp_in_nI hn (by decide), n, 0, r7.2.2.1 n hn, 2, 0, r7.2.1, vp_in_nI hn (by decide), fun h8 d8 => ⟨vp_in_nI hn (by decide), 2, 0, by rw [d8, z_uR_s], Or.inr rfl, fun h9 d9 h10 d10 => ⟨n, 0, by rw [d10, z_uR_s], Or.inl rfl, fun h11 d11 => g_J_read_126 ?_⟩⟩⟩
  rw [nI_clamp (by omega)]
  refine ⟨vp_in_nI hn (by decide), 2, 0, ?_, ?_⟩
  · subst d11 d10 d9 d8
    simp [z_uI_R, z_uR_at]
  · have e : h11.1 (14, 2, 0) 2 = 0 := by
      subst d11 d10 d9 d8
      simpa [z_uI_at, z_uR_I] using j7.1
    rw [e]
    refine kg n f hn rfl hf rfl h11 ((z6.tr z7).tr ?_)
    subst d11 d10 d9 d8
    refine (((zf.uR ?_).tr (zf.uI ?_)).tr (zf.uR ?_)).tr (zf.uI ?_) <;> exact cs (by decide) (by decide)
end FR2
