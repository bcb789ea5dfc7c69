/-! ===== file and take ===== -/
def mfS (f : Nat) (q : zR) (k : Nat) : Prop := (q = (102, 0, 0) ∧ 1200 * f ≤ k ∧ k < 1200 * f + 1200) ∨ (q = (103, 0, 0) ∧ k = f) ∨ (q = (22, 0, 0) ∧ k = 1)
section FILE
variable {f : Nat} {t : List Int32} {h0 : zH}
theorem l_M_file {K : Int32 → zH → Prop} (hf : f < 6) (hcap : t.length ≤ 1200) (k : ∀ h1, tpM h1 [] → flM h1 f t → zf (mfS f) h0 h1 → K (nI t.length) h1) :
    ∀ (m c : Nat) (h : zH), c + m = t.length → tpM h t → (∀ i, i < c → h.1 (102, 0, 0) (1200 * f + i) = t.getD i 0) → zf (mfS f) h0 h → zAt m_M_file 13 [some (.inr (.inr (22, 0, 0))), some (.inl (nI f)), some (.inl (nI c))] [] h (z_qI K)
  | 0, c, h, hc, b, hd, fz => by
    have hct : c = t.length := by omega
    subst hct
    refine g_M_file_13 ⟨fun z => absurd z (by rw [b.1]; exact nI_nlt (Nat.le_refl _) (by omega)), fun _ => ⟨vp_in_nI hf (by decide), fun h1 e1 h2 e2 => ⟨vp_in_nI hf (by decide), ?_⟩⟩⟩
    rw [b.1, nI_clamp (by omega)] at e1
    have ea : h2.1 (103, 0, 0) f = nI t.length := by rw [e2, z_uI_n (fun z => by cases z.1), e1, z_uI_s]
    rw [nI_clamp (by omega), ea]
    refine k h2 ⟨?_, fun i hi => by cases hi⟩ ⟨ea, fun i hi => ?_⟩ (fz.tr ?_)
    · rw [e2, z_uI_s]; rfl
    · rw [e2, z_uI_n (fun z => by cases z.1), e1, z_uI_n (fun z => by cases z.1)]
      exact hd i hi
    · rw [e2, e1]
      exact (zf.uI (Or.inr (Or.inl ⟨rfl, rfl⟩))).tr (zf.uI (Or.inr (Or.inr ⟨rfl, rfl⟩)))
  | m + 1, c, h, hc, b, hd, fz => by
    have hi : (1200 : Int32) * nI f + nI c = nI (1200 * f + c) := by rw [show (1200 : Int32) = nI 1200 from rfl, pk_mul, nI_add]
    refine g_M_file_13 ⟨fun _ => ⟨vp_in_nI (by omega) (by decide), ?_⟩, fun z => absurd (by rw [b.1]; exact nI_lt (by omega) (by omega)) z⟩
    rw [hi]
    refine ⟨vp_in_nI (by omega) (by decide), fun h1 e1 => ?_⟩
    rw [nI_clamp (by omega), nI_clamp (by omega), b.2 c (by omega)] at e1
    have fz1 : zf (mfS f) h h1 := by rw [e1]; exact zf.uI (Or.inl ⟨rfl, by omega, by omega⟩)
    rw [nI_1]
    refine l_M_file hf hcap k m (c + 1) h1 (by omega) ⟨?_, fun i hi2 => ?_⟩ (fun i hi2 => ?_) (fz.tr fz1)
    · rw [e1, z_uI_n (fun z => by cases z.1)]; exact b.1
    · rw [e1, z_uI_n (fun z => by cases z.1)]; exact b.2 i hi2
    · rw [e1, z_uI_at]
      by_cases hic : i = c
      · rw [if_pos ⟨rfl, by omega⟩, hic]
      · rw [if_neg (fun z => hic (by omega))]
        exact hd i (by omega)
end FILE
section TAKE
variable {pg : List Int32} {h0 : zH} {n : Nat}
theorem l_M_take {K : Int32 → zH → Prop} (hn : n ≤ 1200) (hnp : n ≤ pg.length) (hcap : pg.length ≤ 9728) (k : ∀ h1, tpM h1 (pg.take n) → zf mtS h0 h1 → K (nI n) h1) :
    ∀ (m c : Nat) (h : zH), c + m = n → h.1 (22, 0, 0) 1 = nI n → pgM h pg → (∀ i, i < c → h.1 (100, 0, 0) i = pg.getD i 0) → zf mtS h0 h → zAt m_M_take 26 [some (.inr (.inr (22, 0, 0))), some (.inl (nI c))] [] h (z_qI K)
  | 0, c, h, hc, b, bp, hd, fz => by
    refine g_M_take_26 ⟨fun z => absurd z (by rw [b]; exact nI_nlt (by omega) (by omega)), fun _ => ?_⟩
    rw [b]
    have hlt : (pg.take n).length = n := by simp; omega
    refine k h ⟨by rw [hlt]; exact b, fun i hi => ?_⟩ fz
    rw [hlt] at hi
    rw [hd i (by omega)]
    simp only [List.getD_eq_getElem?_getD]
    rw [List.getElem?_take_of_lt hi]
  | m + 1, c, h, hc, b, bp, hd, fz => by
    refine g_M_take_26 ⟨fun _ => ⟨vp_in_nI (by omega) (by decide), vp_in_nI (by omega) (by decide), fun h1 e1 => ?_⟩, fun z => absurd (by rw [b]; exact nI_lt (by omega) (by omega)) z⟩
    rw [nI_clamp (by omega), bp.2 c (by omega)] at e1
    have fz1 : zf mtS h h1 := by rw [e1]; exact zf.uI (Or.inl rfl)
    rw [nI_1]
    refine l_M_take hn hnp hcap k m (c + 1) h1 (by omega) ?_ (bp.zf fz1 ?_ ?_) (fun i hi => ?_) (fz.tr fz1)
    · rw [e1, z_uI_n (fun z => by cases z.1)]; exact b
    · exact fun z => z.elim (fun e => by cases e) (fun e => by cases e.2)
    · exact fun _ z => z.elim (fun e => by cases e) (fun e => by cases e.1)
    · rw [e1, z_uI_at]
      by_cases hic : i = c
      · rw [if_pos ⟨rfl, hic⟩, hic]
      · rw [if_neg (fun z => hic z.2)]
        exact hd i (by omega)
end TAKE
section PUB2
variable {h : zH} {t pg : List Int32} {fs : Nat → List Int32} {K : Int32 → Int32 → zH → Prop}
theorem P_file {x : Int32} (a : tx h t fs pg) (k : ∀ r h2 t' fs', tx h2 t' fs' pg → zf txS h h2 → K r r h2) : zOkI m_J_file [.inr (.inr (21, 0, 0)), .inl x] h (fun r h1 => zOkI m_M_file [.inr (.inr (22, 0, 0)), .inl x] h1 (fun r' h2 => K r r' h2)) := by
  have hcap : t.length ≤ 1200 := a.1.1.2.1
  refine o_J_file (s_J_isFile (g_J_file_4 ⟨fun c => ?_, fun c => ?_⟩))
  · have c' := zb0.mp c
    exact o_M_file (s_M_in (g_M_file_6 ⟨fun _ => k _ _ t fs a zf.rf, fun d => absurd (isf.mp (zb1.mp d)) c'⟩))
  · have c' := zb1.mp c
    obtain ⟨n, hn, rfl⟩ := isf_nI c'
    rw [nI_clamp (by omega), a.1.1.1]
    refine ⟨vp_in_nI hn (by decide), s_B_become (a := 0) (e := t.length) (by omega) a.1.1 (fun y hy => tb_nb (a.1.2.2 y hy)) (Nat.zero_le _) (Nat.le_refl _) (by show _ ≤ 1200; omega) (fun h1 b1 f1 => g_J_file_30 (s_B_clear (fun h2 b2 f2 => g_J_file_37 ⟨vp_in_nI hn (by decide), ?_⟩)))⟩
    rw [sg_all] at b1
    have ne1 : ∀ {kd i j k : Nat}, kd ≠ 10 → kd ≠ 30 → ¬ bS 1 0 (kd, i, j) k := fun h1 h2 z => z.elim (fun e => h1 (by cases e; rfl)) (fun e => h2 (by cases e; rfl))
    have ne0 : ∀ {kd i j k : Nat}, i ≠ 1 → ¬ bS 1 0 (kd, i, j) k := fun h1 z => z.elim (fun e => by cases e; exact h1 rfl) (fun e => by cases e; exact h1 rfl)
    have me1 : ∀ {kd i j k : Nat}, kd ≠ 10 → kd ≠ 30 → ¬ bS 0 n (kd, i, j) k := fun h1 h2 z => z.elim (fun e => h1 (by cases e; rfl)) (fun e => h2 (by cases e; rfl))
    have me0 : ∀ {kd i j k : Nat}, ¬ (i = 0 ∧ j = n) → ¬ bS 0 n (kd, i, j) k := fun h1 z => z.elim (fun e => by cases e; exact h1 ⟨rfl, rfl⟩) (fun e => by cases e; exact h1 ⟨rfl, rfl⟩)
    have b1' : bt h2 0 n t := b1.zf f2 (ne0 (by decide)) (fun _ => ne0 (by decide))
    rw [nI_clamp (by omega), b1'.1]
    have p1 : tpM h2 t := (a.1.2.1.zf f1 (me1 (by decide) (by decide)) (fun _ => me1 (by decide) (by decide))).zf f2 (ne1 (by decide) (by decide)) (fun _ => ne1 (by decide) (by decide))
    refine o_M_file (s_M_in (g_M_file_6 ⟨fun d => absurd (zb0.mp d) (fun z => z (isf.mpr c')), fun _ => ?_⟩))
    refine l_M_file (f := n) (t := t) (h0 := h2) hn hcap (fun h3 p3 q3 f3 => ?_) t.length 0 h2 (by omega) p1 (fun i hi => by omega) zf.rf
    have mn : ∀ {kd i j k : Nat}, kd ≠ 102 → kd ≠ 103 → kd ≠ 22 → ¬ mfS n (kd, i, j) k := fun h1 h2 h3 z => by
      rcases z with ⟨e, _⟩ | ⟨e, _⟩ | ⟨e, _⟩
      · cases e; exact h1 rfl
      · cases e; exact h2 rfl
      · cases e; exact h3 rfl
    have fb : ∀ g, g < 6 → g ≠ n → flM h2 g (fs g) → flM h3 g (fs g) := by
      intro g hg hgn hb
      have hl : (fs g).length ≤ 1200 := (a.2.1 g hg).1.2.1
      refine ⟨(f3 _ _ ?_).1.trans hb.1, fun i hi => (f3 _ _ ?_).1.trans (hb.2 i hi)⟩
      · rintro (⟨e, _⟩ | ⟨_, e⟩ | ⟨e, _⟩)
        · cases e
        · exact hgn e
        · cases e
      · rintro (⟨_, e1, e2⟩ | ⟨e, _⟩ | ⟨e, _⟩)
        · omega
        · cases e
        · cases e
    refine k _ h3 [] (fun g => if g = n then t else fs g) ⟨⟨b2.zf f3 (mn (by decide) (by decide) (by decide)) (fun _ => mn (by decide) (by decide) (by decide)), p3, fun y hy => by cases hy⟩, fun g hg => ?_, ?_, ?_, a.2.2.2.2⟩ ?_
    · by_cases hgn : g = n
      · subst hgn
        dsimp only
        rw [if_pos rfl]
        exact ⟨b1'.zf f3 (mn (by decide) (by decide) (by decide)) (fun _ => mn (by decide) (by decide) (by decide)), q3, a.1.2.2⟩
      · dsimp only
        rw [if_neg hgn]
        obtain ⟨c1, c2, c3⟩ := a.2.1 g hg
        refine ⟨((c1.zf f1 (me0 (fun z => hgn z.2)) (fun _ => me0 (fun z => hgn z.2))).zf f2 (ne0 (by decide)) (fun _ => ne0 (by decide))).zf f3 (mn (by decide) (by decide) (by decide)) (fun _ => mn (by decide) (by decide) (by decide)), fb g hg hgn ((c2.zf f1 (fun _ => me1 (by decide) (by decide)) (fun _ => me1 (by decide) (by decide))).zf f2 (fun _ => ne1 (by decide) (by decide)) (fun _ => ne1 (by decide) (by decide))), c3⟩
    · exact ((a.2.2.1.zf f1 (me0 (by omega)) (fun _ => me0 (by omega))).zf f2 (ne0 (by decide)) (fun _ => ne0 (by decide))).zf f3 (mn (by decide) (by decide) (by decide)) (fun _ => mn (by decide) (by decide) (by decide))
    · refine ((a.2.2.2.1.zf f1 (me1 (by decide) (by decide)) (fun _ => me1 (by decide) (by decide))).zf f2 (ne1 (by decide) (by decide)) (fun _ => ne1 (by decide) (by decide))).zf f3 ?_ (fun _ => mn (by decide) (by decide) (by decide))
      rintro (⟨e, _⟩ | ⟨e, _⟩ | ⟨_, e⟩)
      · cases e
      · cases e
      · cases e
    · refine ((f1.wk (fun _ _ => bS_tx (by decide))).tr (f2.wk (fun _ _ => bS_tx (by decide)))).tr (f3.wk (fun q kk z => ?_))
      rcases z with ⟨e, _⟩ | ⟨e, _⟩ | ⟨e, e2⟩
      · exact Or.inr (Or.inr (Or.inr (Or.inl e)))
      · exact Or.inr (Or.inr (Or.inr (Or.inr (Or.inl e))))
      · exact Or.inr (Or.inr (Or.inr (Or.inr (Or.inr (Or.inr ⟨e, Or.inl e2⟩)))))
theorem P_take (a : tx h t fs pg) (k : ∀ r h2 t', tx h2 t' fs pg → zf txS h h2 → K r r h2) : zOkI m_J_take [.inr (.inr (21, 0, 0))] h (fun r h1 => zOkI m_M_take [.inr (.inr (22, 0, 0))] h1 (fun r' h2 => K r r' h2)) := by
  have hcap : pg.length ≤ 9728 := a.2.2.1.2.1
  obtain ⟨n, hn1, hn2, hmin, hbr⟩ : ∃ n, n ≤ 1200 ∧ n ≤ pg.length ∧ (if (1200 : Int32) < nI pg.length then (1200 : Int32) else nI pg.length) = nI n ∧ ((1200 < pg.length ∧ n = 1200) ∨ (pg.length ≤ 1200 ∧ n = pg.length)) := by
    rcases Nat.lt_or_ge 1200 pg.length with c | c
    · exact ⟨1200, Nat.le_refl _, by omega, if_pos (show (1200 : Int32) < nI pg.length from nI_lt (a := 1200) c (by omega)), Or.inl ⟨c, rfl⟩⟩
    · exact ⟨pg.length, c, Nat.le_refl _, if_neg (show ¬ (1200 : Int32) < nI pg.length from nI_nlt (a := 1200) c (by decide)), Or.inr ⟨c, rfl⟩⟩
  refine o_J_take ?_
  rw [a.2.2.1.1, hmin]
  refine s_B_become (a := 0) (e := n) (by omega) a.2.2.1 (fun y hy => tb_nb (a.2.2.2.2 y hy)) (Nat.zero_le _) hn2 (by show _ ≤ 1200; omega) (fun h1 b1 f1 => g_J_take_25 ?_)
  have hsg : sg pg 0 n = pg.take n := by unfold sg; simp
  rw [hsg] at b1
  have hlt : (pg.take n).length = n := by simp; omega
  rw [b1.1, hlt]
  obtain ⟨-, a2, a3, a4, a5⟩ := a.ct f1
  have key : ∀ h2, h2 = z_uI h1 (22, 0, 0) 1 (nI n) → zAt m_M_take 26 [some (.inr (.inr (22, 0, 0))), some (.inl (0 : Int32))] [] h2 (z_qI (fun r' h2 => K (nI n) r' h2)) := by
    intro h2 e2
    have fz2 : zf mtS h1 h2 := by rw [e2]; exact zf.uI (Or.inr ⟨rfl, rfl⟩)
    refine l_M_take (pg := pg) (h0 := h1) hn1 hn2 hcap (fun h3 p3 f3 => ?_) n 0 h2 (by omega) (by rw [e2, z_uI_s]) (a4.zf fz2 ?_ ?_) (fun i hi => by omega) fz2
    · exact k _ h3 (pg.take n) (tx.mt ⟨b1, a2, a3, a4, a5⟩ f3 p3 (fun y hy => a5 y (List.mem_of_mem_take hy))) ((f1.wk (fun _ _ => bS_tx (by decide))).tr (f3.wk (fun _ _ => mtS_tx)))
    · exact fun z => z.elim (fun e => by cases e) (fun e => by cases e.2)
    · exact fun _ z => z.elim (fun e => by cases e) (fun e => by cases e.1)
  refine o_M_take ?_
  rw [a4.1]
  rcases hbr with ⟨c, e⟩ | ⟨c, e⟩
  · subst e
    exact ⟨fun _ => key, fun z => absurd (nI_lt (a := 1200) c (by omega)) z⟩
  · subst e
    exact ⟨fun z => absurd z (nI_nlt (a := 1200) c (by decide)), fun _ => key⟩
end PUB2
