/-! ===== texts: tape, files, page, on both sides ===== -/
def tpM (h : zH) (l : List Int32) : Prop := h.1 (22, 0, 0) 1 = nI l.length ∧ ∀ k, k < l.length → h.1 (100, 0, 0) k = l.getD k 0
def flM (h : zH) (f : Nat) (l : List Int32) : Prop := h.1 (103, 0, 0) f = nI l.length ∧ ∀ k, k < l.length → h.1 (102, 0, 0) (1200 * f + k) = l.getD k 0
def pgM (h : zH) (l : List Int32) : Prop := h.1 (22, 0, 0) 79 = nI l.length ∧ ∀ k, k < l.length → h.1 (178, 0, 0) k = l.getD k 0
theorem tb_nb {x : Int32} (h : tb x) : nb x := by
  rcases h with h | ⟨h1, h2⟩
  · rw [h]; exact ⟨by decide, by decide⟩
  · unfold nb
    rw [Int32.lt_iff_toInt_lt] at h1 h2 ⊢
    rw [Int32.lt_iff_toInt_lt]
    rw [show (32 : Int32).toInt = 32 from rfl] at h1
    rw [show (126 : Int32).toInt = 126 from rfl] at h2
    rw [show (0 : Int32).toInt = 0 from rfl, show (128 : Int32).toInt = 128 from rfl]
    omega
/-- bytes n-1 .. 0 of a long -/
def byF (w : Int64) : Nat → List Int32
  | 0 => []
  | n + 1 => lbC w (nI n) :: byF w n
theorem byF_len (w : Int64) : ∀ n, (byF w n).length = n
  | 0 => rfl
  | n + 1 => by simp [byF, byF_len w n]
theorem byF_mem {w : Int64} {x : Int32} : ∀ {n : Nat}, x ∈ byF w n → ∃ i, i < n ∧ x = lbC w (nI i)
  | 0, h => by cases h
  | n + 1, h => by
    rcases List.mem_cons.mp h with h | h
    · exact ⟨n, by omega, h⟩
    · obtain ⟨i, h1, h2⟩ := byF_mem h
      exact ⟨i, by omega, h2⟩
section TYPE
variable {w : Int64} {n : Nat} {t : List Int32}
theorem l_J_type16 {K : Int32 → zH → Prop} {h : zH} (hn : n ≤ 8) (hk : ∀ i, i < n → ¬ tb (lbC w (nI i)) → K (-1) h) (kk : (∀ i, i < n → tb (lbC w (nI i))) → zAt m_J_type 16 [some (.inr (.inr (21, 0, 0))), some (.inr (.inl w)), none, some (.inl (nI n)), some (.inl (nI n))] [] h (z_qI K)) :
    ∀ (m c : Nat), c + m = n → (∀ i, i < c → tb (lbC w (nI i))) → zAt m_J_type 16 [some (.inr (.inr (21, 0, 0))), some (.inr (.inl w)), none, some (.inl (nI n)), some (.inl (nI c))] [] h (z_qI K)
  | 0, c, hc, hb => by
    rw [show c = n by omega] at hb ⊢
    exact kk hb
  | m + 1, c, hc, hb => by
    refine g_J_type_16 ⟨fun _ => ?_, fun a => absurd (nI_lt (by omega) (by omega)) a⟩
    refine o_J_lowByte (g_J_type_28 (s_J_isTextByte (g_J_type_31 ⟨fun a => ?_, fun a => ?_⟩)))
    · have a' := zb0.mp a
      exact hk c (by omega) a'
    · rw [nI_1]
      refine l_J_type16 hn hk kk m (c + 1) (by omega) (fun i hi => ?_)
      rcases Nat.lt_or_ge i c with h1 | h1
      · exact hb i h1
      · have a' := zb1.mp a
        rw [show i = c by omega]; exact a'
theorem l_J_type65 {K : Int32 → zH → Prop} {x3 : Int32} {h0 : zH} (hcap : t.length + n ≤ 1200) (ht : ∀ i, i < n → tb (lbC w (nI i))) (hn : n ≤ 8) (k : ∀ h1, bt h1 1 0 (t ++ byF w n) → zf (bS 1 0) h0 h1 → K (nI (t.length + n)) h1) :
    ∀ (m : Nat) (h : zH) (u : List Int32), m ≤ n → u ++ byF w m = t ++ byF w n → bt h 1 0 u → zf (bS 1 0) h0 h → zAt m_J_type 65 [some (.inr (.inr (21, 0, 0))), some (.inr (.inl w)), none, some (.inl x3), some (.inl (nI m - 1))] [] h (z_qI K)
  | 0, h, u, hm, hu, b, f => by
    refine g_J_type_65 ⟨fun _ => ?_, fun a => absurd (by decide) a⟩
    have e : u = t ++ byF w n := by simpa [byF] using hu
    subst e
    have := k h b f
    rw [b.1]
    simpa [byF_len] using this
  | m + 1, h, u, hm, hu, b, f => by
    rw [show nI (m + 1) - 1 = nI m from nI_pred m]
    refine g_J_type_65 ⟨fun a => absurd a (nI_pos (by omega)), fun _ => ?_⟩
    have hlen : u.length + (m + 1) = t.length + n := by
      have := congrArg List.length hu
      simpa [byF_len] using this
    refine o_J_lowByte (g_J_type_80 (s_B_add (x := lbC w (nI m)) b (by show _ < 1200; omega) (tb_nb (ht m (by omega))) (fun h1 b1 f1 => g_J_type_83 ?_)))
    rw [show nI m + (-1) = nI m - 1 from (Int32.sub_eq_add_neg (a := nI m) (b := 1)).symm]
    exact l_J_type65 hcap ht hn k m h1 (u ++ [lbC w (nI m)]) (by omega) (by rw [← hu]; simp [byF]) b1 (f.tr f1)
/-- what type answers, and the tape behind it -/
def tyR (t : List Int32) (w : Int64) (x : Int32) (r : Int32) (t' : List Int32) : Prop :=
  (((x < 1 ∨ 8 < x) ∨ ∃ n i, x = nI n ∧ n ≤ 8 ∧ i < n ∧ ¬ tb (lbC w (nI i))) ∧ r = -1 ∧ t' = t) ∨
  (∃ n, x = nI n ∧ 1 ≤ n ∧ n ≤ 8 ∧ (∀ i, i < n → tb (lbC w (nI i))) ∧ ((1200 < t.length + n ∧ r = -3 ∧ t' = t) ∨ (t.length + n ≤ 1200 ∧ r = nI (t.length + n) ∧ t' = t ++ byF w n)))
theorem s_J_type {K : Int32 → zH → Prop} {h : zH} {x : Int32} (b : bt h 1 0 t) (k : ∀ r h1 t', tyR t w x r t' → bt h1 1 0 t' → zf (bS 1 0) h h1 → K r h1) : zOkI m_J_type [.inr (.inr (21, 0, 0)), .inr (.inl w), .inl x] h K := by
  have hcap : t.length ≤ 1200 := b.2.1
  refine o_J_type ⟨fun a => ?_, fun a => ⟨fun c => ?_, fun c => ?_⟩⟩
  · exact k _ _ t (Or.inl ⟨Or.inl (Or.inl a), rfl, rfl⟩) b zf.rf
  · exact k _ _ t (Or.inl ⟨Or.inl (Or.inr c), rfl, rfl⟩) b zf.rf
  · have h0 : ¬ x < 0 := by
      rw [Int32.lt_iff_toInt_lt] at a ⊢
      rw [show (1 : Int32).toInt = 1 from rfl] at a
      rw [show (0 : Int32).toInt = 0 from rfl]
      omega
    obtain ⟨n, hn, rfl⟩ := nI_of h0
    have hn8 : n ≤ 8 := by
      rcases Nat.lt_or_ge 8 n with z | z
      · exact absurd (nI_lt (a := 8) z hn) c
      · exact z
    have hn1 : 1 ≤ n := by
      rcases Nat.lt_or_ge n 1 with z | z
      · exact absurd (nI_lt (b := 1) z (by decide)) a
      · exact z
    refine l_J_type16 (n := n) hn8 (fun i hi hb => k _ _ t (Or.inl ⟨Or.inr ⟨n, i, rfl, hn8, hi, hb⟩, rfl, rfl⟩) b zf.rf) (fun hall => ?_) n 0 (by omega) (fun i hi => by omega)
    refine g_J_type_16 ⟨fun z => absurd z (nI_nlt (Nat.le_refl _) hn), fun _ => ?_⟩
    rw [b.1, nI_add]
    refine ⟨fun z => ?_, fun z => ?_⟩
    · have hz := (nI_ltI (a := 1200) (by decide) (by omega)).mp z
      exact k _ _ t (Or.inr ⟨n, rfl, hn1, hn8, hall, Or.inl ⟨hz, rfl, rfl⟩⟩) b zf.rf
    · have hz : t.length + n ≤ 1200 := by
        rcases Nat.lt_or_ge 1200 (t.length + n) with y | y
        · exact absurd (nI_lt (a := 1200) y (by omega)) z
        · exact y
      exact l_J_type65 hz hall hn8 (fun h1 b1 f1 => k _ h1 _ (Or.inr ⟨n, rfl, hn1, hn8, hall, Or.inr ⟨hz, rfl, rfl⟩⟩) b1 f1) n h t (Nat.le_refl _) rfl b zf.rf
end TYPE
