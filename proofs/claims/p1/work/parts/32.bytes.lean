/-! ===== rows of bytes ===== -/
def bt (h : zH) (i j : Nat) (l : List Int32) : Prop := h.1 (10, i, j) 1 = nI l.length ∧ l.length ≤ z_rl i ∧ ∀ k, k < l.length → h.1 (30, i, j) k = l.getD k 0
def bS (i j : Nat) (q : zR) (_ : Nat) : Prop := q = (10, i, j) ∨ q = (30, i, j)
theorem bt.cg {h h1 : zH} {i j : Nat} {l : List Int32} (b : bt h i j l) (e1 : h1.1 (10, i, j) 1 = h.1 (10, i, j) 1) (e2 : ∀ k, h1.1 (30, i, j) k = h.1 (30, i, j) k) : bt h1 i j l := ⟨e1.trans b.1, b.2.1, fun k hk => (e2 k).trans (b.2.2 k hk)⟩
theorem bt.zf {S : zR → Nat → Prop} {h h1 : zH} {i j : Nat} {l : List Int32} (b : bt h i j l) (f : zf S h h1) (n1 : ¬ S (10, i, j) 1) (n2 : ∀ k, ¬ S (30, i, j) k) : bt h1 i j l := b.cg (f _ _ n1).1 (fun k => (f _ _ (n2 k)).1)
theorem z_rl_lt (i : Nat) : z_rl i < 2 ^ 30 := by
  unfold z_rl
  split
  · decide
  · split <;> decide
/-- a small number, as a byte keeps it -/
def nb (x : Int32) : Prop := ¬ x < 0 ∧ x < 128
theorem nb_nI {x : Int32} (h : nb x) : ∃ n, n < 128 ∧ x = nI n := by
  obtain ⟨j, hj, rfl⟩ := nI_of h.1
  exact ⟨j, (nI_ltI (b := 128) hj (by decide)).mp h.2, rfl⟩
theorem nb_byte' : ∀ n, n < 128 → (nI n).toInt8.toInt32 = nI n := by decide +kernel
theorem nb_byte {x : Int32} (h : nb x) : x.toInt8.toInt32 = x := by
  obtain ⟨n, hn, rfl⟩ := nb_nI h
  exact nb_byte' n hn
def lat (l : List Int32) (x : Int32) : Int32 := if ¬ x < 0 ∧ x < nI l.length then l.getD x.toNatClampNeg 0 else -5
theorem lat_nI {l : List Int32} {k : Nat} (hk : k < l.length) (hl : l.length < 2 ^ 31) : lat l (nI k) = l.getD k 0 := by
  unfold lat
  rw [if_pos ⟨nI_pos (by omega), nI_lt hk hl⟩, nI_clamp (by omega)]
theorem lat_out {l : List Int32} {k : Nat} (hk : l.length ≤ k) (hl : k < 2 ^ 31) : lat l (nI k) = -5 := by
  unfold lat
  rw [if_neg (fun z => nI_nlt hk hl z.2)]
section BYTES
variable {h : zH} {i j : Nat} {l : List Int32}
theorem s_B_at {K : Int32 → zH → Prop} {x : Int32} (b : bt h i j l) (k : K (lat l x) h) : zOkI m_B_at [.inr (.inr (10, i, j)), .inl x] h K := by
  have hl := z_rl_lt i
  have hb := b.2.1
  unfold lat at k
  refine o_B_at ⟨fun a => ?_, fun a => ⟨fun c => ?_, fun c => ?_⟩⟩
  · rwa [if_neg (fun z => z.1 a)] at k
  · rw [b.1] at c
    rw [if_pos ⟨a, c⟩] at k
    obtain ⟨n, hn, rfl⟩ := nI_of a
    have hnl := (nI_ltI hn (by omega)).mp c
    rw [nI_clamp hn] at k ⊢
    rw [b.2.2 n hnl]
    exact ⟨vp_in_nI (show n < z_rl i by omega) (show z_rl i < _ by omega), k⟩
  · rw [b.1] at c
    rwa [if_neg (fun z => c z.2)] at k
theorem s_B_add {K : zH → Prop} {x : Int32} (b : bt h i j l) (hl : l.length < z_rl i) (hx : nb x) (k : ∀ h1, bt h1 i j (l ++ [x]) → zf (bS i j) h h1 → K h1) : zOkV m_B_add [.inr (.inr (10, i, j)), .inl x] h K := by
  have hz := z_rl_lt i
  have hlt : nI l.length < nI (z_rl i) := nI_lt hl (by omega)
  refine o_B_add ⟨fun _ => ⟨?_, ?_⟩, fun a => absurd ?_ a⟩
  · rw [b.1]
    exact vp_in_nI hl (show z_rl i < _ by omega)
  · intro h1 e1 h2 e2
    rw [b.1, nI_clamp (by omega), vp_nar_byte, nb_byte hx, nb_byte hx] at e1
    have e3 : h1.1 (10, i, j) 1 = nI l.length := by
      rw [e1, z_uI_n (fun z => by cases z.1)]
      exact b.1
    rw [e3, nI_1] at e2
    refine k h2 ⟨?_, ?_, fun n hn => ?_⟩ ?_
    · rw [e2, z_uI_s]
      simp
    · simp; omega
    · rw [e2, z_uI_n (fun z => by cases z.1), e1, z_uI_at]
      simp only [List.length_append, List.length_cons, List.length_nil] at hn
      by_cases hn2 : n = l.length
      · rw [if_pos ⟨rfl, hn2⟩, hn2]
        simp [List.getD_eq_getElem?_getD]
      · rw [if_neg (fun z => hn2 z.2), b.2.2 n (by omega)]
        simp only [List.getD_eq_getElem?_getD]
        rw [List.getElem?_append_left (by omega)]
    · rw [e2, e1]
      exact (zf.uI (Or.inr rfl)).tr (zf.uI (Or.inl rfl))
  · rw [b.1]
    exact hlt
theorem s_B_clear {K : zH → Prop} (k : ∀ h1, bt h1 i j [] → zf (bS i j) h h1 → K h1) : zOkV m_B_clear [.inr (.inr (10, i, j))] h K := by
  refine o_B_clear (fun h1 e1 => k h1 ⟨?_, Nat.zero_le _, fun n hn => by cases hn⟩ ?_)
  · rw [e1, z_uI_s]; rfl
  · rw [e1]; exact zf.uI (Or.inl rfl)
end BYTES
/-- a part of a row -/
def sg (l : List Int32) (a b : Nat) : List Int32 := (l.drop a).take (b - a)
theorem sg_nil (l : List Int32) (a : Nat) : sg l a a = [] := by
  unfold sg
  simp
theorem sg_len {l : List Int32} {a b : Nat} (hb : b ≤ l.length) : (sg l a b).length = b - a := by
  unfold sg
  simp
  omega
theorem sg_succ {l : List Int32} {a b : Nat} (hab : a ≤ b) (hb : b < l.length) : sg l a (b + 1) = sg l a b ++ [l.getD b 0] := by
  unfold sg
  rw [show b + 1 - a = (b - a) + 1 by omega, List.take_add_one]
  congr 1
  rw [List.getElem?_drop, show a + (b - a) = b by omega, List.getD_eq_getElem?_getD, List.getElem?_eq_getElem hb]
  rfl
theorem sg_all {l : List Int32} : sg l 0 l.length = l := by
  unfold sg
  simp
section BECOME
variable {i j i1 j1 : Nat} {l : List Int32} {K : zH → Prop} {h0 : zH}
theorem l_B_become (hne : ¬ (i1 = i ∧ j1 = j)) (hB : ∀ x ∈ l, nb x) {a e : Nat} (he : e ≤ l.length) (hcap : e - a ≤ z_rl i) (k : ∀ h1, bt h1 i j (sg l a e) → zf (bS i j) h0 h1 → K h1) :
    ∀ (n c : Nat) (h : zH), c + n = e → a ≤ c → bt h i1 j1 l → bt h i j (sg l a c) → zf (bS i j) h0 h → zAt m_B_become 7 [some (.inr (.inr (10, i, j))), some (.inr (.inr (10, i1, j1))), some (.inl (nI a)), some (.inl (nI e)), some (.inl (nI c))] [] h (z_qV K)
  | 0, c, h, hc, hac, b1, b, f => by
    have hz := z_rl_lt i1
    have := b1.2.1
    refine g_B_become_7 ⟨fun z => absurd z (nI_nlt (by omega) (by omega)), fun _ => k h ?_ f⟩
    rwa [show e = c by omega]
  | n + 1, c, h, hc, hac, b1, b, f => by
    have hz := z_rl_lt i1
    have := b1.2.1
    have hcl : c < l.length := by omega
    refine g_B_become_7 ⟨fun _ => ?_, fun z => absurd (nI_lt (by omega) (by omega)) z⟩
    refine s_B_at b1 ?_
    rw [lat_nI hcl (by omega)]
    refine g_B_become_20 (s_B_add b (by rw [sg_len (by omega)]; omega) (hB _ ?_) (fun h1 b2 f2 => g_B_become_23 ?_))
    · rw [List.getD_eq_getElem?_getD, List.getElem?_eq_getElem hcl]
      exact List.getElem_mem _
    · rw [nI_1]
      refine l_B_become hne hB he hcap k n (c + 1) h1 (by omega) (by omega) (b1.zf f2 ?_ ?_) (by rw [sg_succ hac hcl]; exact b2) (f.tr f2)
      · rintro (z | z)
        · cases z; exact hne ⟨rfl, rfl⟩
        · cases z
      · intro kk
        rintro (z | z)
        · cases z
        · cases z; exact hne ⟨rfl, rfl⟩
theorem s_B_become (hne : ¬ (i1 = i ∧ j1 = j)) (b1 : bt h0 i1 j1 l) (hB : ∀ x ∈ l, nb x) {a e : Nat} (hae : a ≤ e) (he : e ≤ l.length) (hcap : e - a ≤ z_rl i) (k : ∀ h1, bt h1 i j (sg l a e) → zf (bS i j) h0 h1 → K h1) : zOkV m_B_become [.inr (.inr (10, i, j)), .inr (.inr (10, i1, j1)), .inl (nI a), .inl (nI e)] h0 K := by
  refine o_B_become (s_B_clear (fun h1 b2 f2 => g_B_become_4 ?_))
  refine l_B_become hne hB he hcap k (e - a) a h1 (by omega) (Nat.le_refl _) (b1.zf f2 ?_ ?_) (by rw [sg_nil]; exact b2) f2
  · rintro (z | z)
    · cases z; exact hne ⟨rfl, rfl⟩
    · cases z
  · intro kk
    rintro (z | z)
    · cases z
    · cases z; exact hne ⟨rfl, rfl⟩
end BECOME
