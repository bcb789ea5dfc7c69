/-- the model's tape -/
def mtS (q : zR) (k : Nat) : Prop := q = (100, 0, 0) ∨ (q = (22, 0, 0) ∧ k = 1)
section MTYPE
variable {w : Int64} {n : Nat} {t : List Int32}
theorem l_M_type17 {K : Int32 → zH → Prop} {h : zH} (hn : n ≤ 8) (hk : ∀ i, i < n → ¬ tb (lbC w (nI i)) → K (-1) h) (kk : (∀ i, i < n → tb (lbC w (nI i))) → zAt m_M_type 17 [some (.inr (.inr (22, 0, 0))), some (.inr (.inl w)), none, some (.inl (nI n)), some (.inl (nI 0 - 1)), none] [] h (z_qI K)) :
    ∀ (m : Nat), m ≤ n → (∀ i, m ≤ i → i < n → tb (lbC w (nI i))) → zAt m_M_type 17 [some (.inr (.inr (22, 0, 0))), some (.inr (.inl w)), none, some (.inl (nI n)), some (.inl (nI m - 1)), none] [] h (z_qI K)
  | 0, hc, hb => kk (fun i hi => hb i (Nat.zero_le _) hi)
  | m + 1, hc, hb => by
    have e : Int64.toInt32 ((w >>> (Int32.toInt64 ((8 : Int32) * nI m) &&& 63)) &&& (255 : Int64)) = lbC w (nI m) := lb_eq w (by omega)
    have em : nI m + (-1) = nI m - 1 := (Int32.sub_eq_add_neg (a := nI m) (b := 1)).symm
    rw [show nI (m + 1) - 1 = nI m from nI_pred m]
    have nx : tb (lbC w (nI m)) → zAt m_M_type 17 [some (.inr (.inr (22, 0, 0))), some (.inr (.inl w)), none, some (.inl (nI n)), some (.inl (nI m + (-1))), none] [] h (z_qI K) := by
      intro htb
      rw [em]
      refine l_M_type17 hn hk kk m (by omega) (fun i h1 h2 => ?_)
      rcases Nat.lt_or_ge m i with h3 | h3
      · exact hb i (by omega) h2
      · rw [show i = m by omega]; exact htb
    refine g_M_type_17 ⟨fun a => absurd a (nI_pos (by omega)), fun _ => ?_⟩
    rw [e]
    refine ⟨fun a => nx (Or.inl a), fun a => s_M_in (g_M_type_52 ⟨fun d => ?_, fun d => ?_⟩)⟩
    · have d' := zb0.mp d
      exact hk m (by omega) (fun z => z.elim a d')
    · have d' := zb1.mp d
      exact nx (Or.inr d')
theorem l_M_type83 {K : Int32 → zH → Prop} {x3 : Int32} {h0 : zH} (hcap : t.length + n ≤ 1200) (hn : n ≤ 8) (k : ∀ h1, tpM h1 (t ++ byF w n) → zf mtS h0 h1 → K (nI (t.length + n)) h1) :
    ∀ (m : Nat) (h : zH) (u : List Int32), m ≤ n → u ++ byF w m = t ++ byF w n → tpM h u → zf mtS h0 h → zAt m_M_type 83 [some (.inr (.inr (22, 0, 0))), some (.inr (.inl w)), none, some (.inl x3), some (.inl (nI m - 1)), none] [] h (z_qI K)
  | 0, h, u, hm, hu, b, f => by
    refine g_M_type_83 ⟨fun _ => ?_, fun a => absurd (by decide) a⟩
    have e : u = t ++ byF w n := by simpa [byF] using hu
    subst e
    have := k h b f
    rw [b.1]
    simpa [byF_len] using this
  | m + 1, h, u, hm, hu, b, f => by
    have e : Int64.toInt32 ((w >>> (Int32.toInt64 ((8 : Int32) * nI m) &&& 63)) &&& (255 : Int64)) = lbC w (nI m) := lb_eq w (by omega)
    have hlen : u.length + (m + 1) = t.length + n := by
      have := congrArg List.length hu
      simpa [byF_len] using this
    rw [show nI (m + 1) - 1 = nI m from nI_pred m]
    refine g_M_type_83 ⟨fun a => absurd a (nI_pos (by omega)), fun _ => ?_⟩
    rw [e, b.1]
    refine ⟨vp_in_nI (by omega) (by decide), fun h1 e1 h2 e2 => ?_⟩
    rw [nI_clamp (by omega)] at e1
    have e3 : h1.1 (22, 0, 0) 1 = nI u.length := by
      rw [e1, z_uI_n (fun z => by cases z.1)]
      exact b.1
    rw [e3, nI_1] at e2
    rw [show nI m + (-1) = nI m - 1 from (Int32.sub_eq_add_neg (a := nI m) (b := 1)).symm]
    refine l_M_type83 hcap hn k m h2 (u ++ [lbC w (nI m)]) (by omega) (by rw [← hu]; simp [byF]) ⟨?_, fun i hi => ?_⟩ (f.tr ?_)
    · rw [e2, z_uI_s]
      simp
    · rw [e2, z_uI_n (fun z => by cases z.1), e1, z_uI_at]
      simp only [List.length_append, List.length_cons, List.length_nil] at hi
      by_cases hn2 : i = u.length
      · rw [if_pos ⟨rfl, hn2⟩, hn2]
        simp [List.getD_eq_getElem?_getD]
      · rw [if_neg (fun z => hn2 z.2), b.2 i (by omega)]
        simp only [List.getD_eq_getElem?_getD]
        rw [List.getElem?_append_left (by omega)]
    · rw [e2, e1]
      exact (zf.uI (Or.inl rfl)).tr (zf.uI (Or.inr ⟨rfl, rfl⟩))
theorem s_M_type {K : Int32 → zH → Prop} {h : zH} {x : Int32} (b : tpM h t) (hcap : t.length ≤ 1200) (k : ∀ r h1 t', tyR t w x r t' → tpM h1 t' → zf mtS h h1 → K r h1) : zOkI m_M_type [.inr (.inr (22, 0, 0)), .inr (.inl w), .inl x] h K := by
  refine o_M_type (s_M_in (g_M_type_7 ⟨fun a => ?_, fun a => ?_⟩))
  · have a' := zb0.mp a
    refine k _ _ t (Or.inl ⟨Or.inl ?_, rfl, rfl⟩) b zf.rf
    by_cases h1 : x < 1
    · exact Or.inl h1
    · exact Or.inr (Classical.not_not.mp (fun z => a' ⟨h1, z⟩))
  · obtain ⟨a1, c⟩ := zb1.mp a
    have h0 : ¬ x < 0 := by
      rw [Int32.lt_iff_toInt_lt] at a1 ⊢
      rw [show (1 : Int32).toInt = 1 from rfl] at a1
      rw [show (0 : Int32).toInt = 0 from rfl]
      omega
    obtain ⟨n, hn, rfl⟩ := nI_of h0
    have hn8 : n ≤ 8 := by
      rcases Nat.lt_or_ge 8 n with z | z
      · exact absurd (nI_lt (a := 8) z hn) c
      · exact z
    have hn1 : 1 ≤ n := by
      rcases Nat.lt_or_ge n 1 with z | z
      · exact absurd (nI_lt (b := 1) z (by decide)) a1
      · exact z
    refine l_M_type17 (n := n) hn8 (fun i hi hb => k _ _ t (Or.inl ⟨Or.inr ⟨n, i, rfl, hn8, hi, hb⟩, rfl, rfl⟩) b zf.rf) (fun hall => ?_) n (Nat.le_refl _) (fun i h1 h2 => by omega)
    refine g_M_type_17 ⟨fun _ => ?_, fun z => absurd (by decide) z⟩
    rw [b.1, nI_add]
    refine ⟨fun z => ?_, fun z => ?_⟩
    · have hz := (nI_ltI (a := 1200) (by decide) (by omega)).mp z
      exact k _ _ t (Or.inr ⟨n, rfl, hn1, hn8, hall, Or.inl ⟨hz, rfl, rfl⟩⟩) b zf.rf
    · have hz : t.length + n ≤ 1200 := by
        rcases Nat.lt_or_ge 1200 (t.length + n) with y | y
        · exact absurd (nI_lt (a := 1200) y (by omega)) z
        · exact y
      exact l_M_type83 hz hn8 (fun h1 b1 f1 => k _ h1 _ (Or.inr ⟨n, rfl, hn1, hn8, hall, Or.inr ⟨hz, rfl, rfl⟩⟩) b1 f1) n h t (Nat.le_refl _) rfl b zf.rf
theorem tyR_det {x r r' : Int32} {t' t'' : List Int32} (a : tyR t w x r t') (b : tyR t w x r' t'') : r = r' ∧ t' = t'' := by
  have inj : ∀ {n m : Nat}, n ≤ 8 → m ≤ 8 → nI n = nI m → n = m := fun h1 h2 e => (nI_eq (by omega) (by omega)).mp e
  rcases a with ⟨a1, a2, a3⟩ | ⟨n, a1, a2, a3, a4, a5⟩ <;> rcases b with ⟨b1, b2, b3⟩ | ⟨m, b1, b2, b3, b4, b5⟩
  · exact ⟨a2.trans b2.symm, a3.trans b3.symm⟩
  · exfalso
    rcases a1 with (a1 | a1) | ⟨n, i, e, h1, h2, h3⟩
    · rw [b1] at a1; exact nI_nlt (b := 1) b2 (by omega) a1
    · rw [b1] at a1; exact nI_nlt (a := 8) b3 (by omega) a1
    · rw [b1] at e
      have := inj b3 h1 e
      subst this
      exact h3 (b4 i h2)
  · exfalso
    rcases b1 with (b1 | b1) | ⟨m, i, e, h1, h2, h3⟩
    · rw [a1] at b1; exact nI_nlt (b := 1) a2 (by omega) b1
    · rw [a1] at b1; exact nI_nlt (a := 8) a3 (by omega) b1
    · rw [a1] at e
      have := inj a3 h1 e
      subst this
      exact h3 (a4 i h2)
  · rw [a1] at b1
    have := inj a3 b3 b1
    subst this
    rcases a5 with ⟨h1, h2, h3⟩ | ⟨h1, h2, h3⟩ <;> rcases b5 with ⟨g1, g2, g3⟩ | ⟨g1, g2, g3⟩
    · exact ⟨h2.trans g2.symm, h3.trans g3.symm⟩
    · omega
    · omega
    · exact ⟨h2.trans g2.symm, h3.trans g3.symm⟩
theorem tyR_ok {x r : Int32} {t' : List Int32} (a : tyR t w x r t') (ht : ∀ y ∈ t, tb y) (hl : t.length ≤ 1200) : (∀ y ∈ t', tb y) ∧ t'.length ≤ 1200 := by
  rcases a with ⟨_, _, a3⟩ | ⟨n, a1, a2, a3, a4, ⟨_, _, a5⟩ | ⟨h1, _, a5⟩⟩
  · rw [a3]; exact ⟨ht, hl⟩
  · rw [a5]; exact ⟨ht, hl⟩
  · rw [a5]
    refine ⟨fun y hy => ?_, by simp [byF_len]; omega⟩
    rcases List.mem_append.mp hy with h | h
    · exact ht y h
    · obtain ⟨i, h2, rfl⟩ := byF_mem h
      exact a4 i h2
end MTYPE
