/-! ===== Layer B: words for what methods do ===== -/
def zb (p : Prop) [Decidable p] : Int32 := if p then 1 else 0
theorem zb01 (p : Prop) [Decidable p] : zb p = 0 ∨ zb p = 1 := by
  unfold zb
  by_cases h : p
  · rw [if_pos h]; exact Or.inr rfl
  · rw [if_neg h]; exact Or.inl rfl
theorem zb0 {p : Prop} [Decidable p] : zb p = 0 ↔ ¬ p := by
  unfold zb
  by_cases h : p
  · rw [if_pos h]; exact ⟨fun e => absurd e (by decide), fun e => absurd h e⟩
  · rw [if_neg h]; exact ⟨fun _ => h, fun _ => rfl⟩
theorem zb1 {p : Prop} [Decidable p] : ¬ zb p = 0 ↔ p := by
  rw [zb0]
  exact ⟨fun e => Classical.not_not.mp e, fun e f => f e⟩
theorem zbT {p : Prop} [Decidable p] (h : p) : zb p = 1 := if_pos h
theorem zbF {p : Prop} [Decidable p] (h : ¬ p) : zb p = 0 := if_neg h
/-- nothing has changed but the slots that S names -/
def zf (S : zR → Nat → Prop) (h h1 : zH) : Prop := ∀ (q : zR) (k : Nat), ¬ S q k → h1.1 q k = h.1 q k ∧ h1.2.1 q k = h.2.1 q k ∧ h1.2.2 q k = h.2.2 q k
theorem zf.rf {S : zR → Nat → Prop} {h : zH} : zf S h h := fun _ _ _ => ⟨rfl, rfl, rfl⟩
theorem zf.tr {S : zR → Nat → Prop} {h h1 h2 : zH} (a : zf S h h1) (b : zf S h1 h2) : zf S h h2 := fun q k hn => ⟨(b q k hn).1.trans (a q k hn).1, (b q k hn).2.1.trans (a q k hn).2.1, (b q k hn).2.2.trans (a q k hn).2.2⟩
theorem zf.wk {S S' : zR → Nat → Prop} {h h1 : zH} (a : zf S h h1) (hs : ∀ q k, S q k → S' q k) : zf S' h h1 := fun q k hn => a q k (fun z => hn (hs q k z))
theorem z_uI_at {h : zH} {q q' : zR} {k k' : Nat} {x : Int32} : (z_uI h q k x).1 q' k' = if q' = q ∧ k' = k then x else h.1 q' k' := rfl
theorem z_uL_at {h : zH} {q q' : zR} {k k' : Nat} {x : Int64} : (z_uL h q k x).2.1 q' k' = if q' = q ∧ k' = k then x else h.2.1 q' k' := rfl
theorem z_uR_at {h : zH} {q q' : zR} {k k' : Nat} {x : zR} : (z_uR h q k x).2.2 q' k' = if q' = q ∧ k' = k then some x else h.2.2 q' k' := rfl
theorem z_uI_L {h : zH} {q : zR} {k : Nat} {x : Int32} : (z_uI h q k x).2.1 = h.2.1 := rfl
theorem z_uI_R {h : zH} {q : zR} {k : Nat} {x : Int32} : (z_uI h q k x).2.2 = h.2.2 := rfl
theorem z_uL_I {h : zH} {q : zR} {k : Nat} {x : Int64} : (z_uL h q k x).1 = h.1 := rfl
theorem z_uL_R {h : zH} {q : zR} {k : Nat} {x : Int64} : (z_uL h q k x).2.2 = h.2.2 := rfl
theorem z_uR_I {h : zH} {q : zR} {k : Nat} {x : zR} : (z_uR h q k x).1 = h.1 := rfl
theorem z_uR_L {h : zH} {q : zR} {k : Nat} {x : zR} : (z_uR h q k x).2.1 = h.2.1 := rfl
theorem z_uI_s {h : zH} {q : zR} {k : Nat} {x : Int32} : (z_uI h q k x).1 q k = x := if_pos ⟨rfl, rfl⟩
theorem z_uL_s {h : zH} {q : zR} {k : Nat} {x : Int64} : (z_uL h q k x).2.1 q k = x := if_pos ⟨rfl, rfl⟩
theorem z_uR_s {h : zH} {q : zR} {k : Nat} {x : zR} : (z_uR h q k x).2.2 q k = some x := if_pos ⟨rfl, rfl⟩
theorem z_uI_n {h : zH} {q q' : zR} {k k' : Nat} {x : Int32} (hn : ¬ (q' = q ∧ k' = k)) : (z_uI h q k x).1 q' k' = h.1 q' k' := if_neg hn
theorem z_uL_n {h : zH} {q q' : zR} {k k' : Nat} {x : Int64} (hn : ¬ (q' = q ∧ k' = k)) : (z_uL h q k x).2.1 q' k' = h.2.1 q' k' := if_neg hn
theorem zf.uI {S : zR → Nat → Prop} {h : zH} {q : zR} {k : Nat} {x : Int32} (hs : S q k) : zf S h (z_uI h q k x) := fun q' k' hn => ⟨if_neg (fun e => hn (by rw [e.1, e.2]; exact hs)), rfl, rfl⟩
theorem zf.uL {S : zR → Nat → Prop} {h : zH} {q : zR} {k : Nat} {x : Int64} (hs : S q k) : zf S h (z_uL h q k x) := fun q' k' hn => ⟨rfl, if_neg (fun e => hn (by rw [e.1, e.2]; exact hs)), rfl⟩
theorem zf.uR {S : zR → Nat → Prop} {h : zH} {q r : zR} {k : Nat} (hs : S q k) : zf S h (z_uR h q k r) := fun q' k' hn => ⟨rfl, rfl, if_neg (fun e => hn (by rw [e.1, e.2]; exact hs))⟩
theorem zOkI.mono {y : Nat} {as : List zV} {h : zH} {K K' : Int32 → zH → Prop} (hk : zOkI y as h K) (hq : ∀ r hh, K r hh → K' r hh) : zOkI y as h K' := zOk.mono hk (fun r hh k => by
  match r, k with
  | none, k => exact k
  | some (.inl x), k => exact hq x hh k
  | some (.inr (.inl x)), k => exact k
  | some (.inr (.inr x)), k => exact k)
theorem zOkV.mono {y : Nat} {as : List zV} {h : zH} {K K' : zH → Prop} (hk : zOkV y as h K) (hq : ∀ hh, K hh → K' hh) : zOkV y as h K' := zOk.mono hk (fun r hh k => by
  match r, k with
  | none, k => exact hq hh k
  | some (.inl x), k => exact k
  | some (.inr (.inl x)), k => exact k
  | some (.inr (.inr x)), k => exact k)
theorem zOkL.mono {y : Nat} {as : List zV} {h : zH} {K K' : Int64 → zH → Prop} (hk : zOkL y as h K) (hq : ∀ r hh, K r hh → K' r hh) : zOkL y as h K' := zOk.mono hk (fun r hh k => by
  match r, k with
  | none, k => exact k
  | some (.inl x), k => exact k
  | some (.inr (.inl x)), k => exact hq x hh k
  | some (.inr (.inr x)), k => exact k)
/-! ===== small questions ===== -/
section SMALL
variable {h : zH} {K : Int32 → zH → Prop} {x lo hi : Int32}
theorem s_M_in (k : K (zb (¬ x < lo ∧ ¬ hi < x)) h) : zOkI m_M_in [.inl x, .inl lo, .inl hi] h K := by
  refine o_M_in ⟨fun a => ⟨Or.inl rfl, ?_⟩, fun a => ⟨fun b => ⟨Or.inl rfl, ?_⟩, fun b => ⟨Or.inr rfl, ?_⟩⟩⟩
  · rwa [zbF (fun z => z.1 a)] at k
  · rwa [zbF (fun z => z.2 b)] at k
  · rwa [zbT ⟨a, b⟩] at k
theorem s_M_isLetter (k : K (zb (¬ x < 97 ∧ ¬ 122 < x)) h) : zOkI m_M_isLetter [.inl x] h K := o_M_isLetter (s_M_in (g_M_isLetter_8 ⟨zb01 _, k⟩))
theorem s_M_isDigit (k : K (zb (¬ x < 48 ∧ ¬ 57 < x)) h) : zOkI m_M_isDigit [.inl x] h K := o_M_isDigit (s_M_in (g_M_isDigit_8 ⟨zb01 _, k⟩))
theorem s_J_isDigit (k : K (zb (¬ x < 48 ∧ ¬ 57 < x)) h) : zOkI m_J_isDigit [.inl x] h K := by
  refine o_J_isDigit ⟨fun a => ⟨Or.inl rfl, ?_⟩, fun a => ⟨fun b => ⟨Or.inl rfl, ?_⟩, fun b => ⟨Or.inr rfl, ?_⟩⟩⟩
  · rwa [zbF (fun z => z.1 a)] at k
  · rwa [zbF (fun z => z.2 b)] at k
  · rwa [zbT ⟨a, b⟩] at k
theorem s_J_isSmallLetter (k : K (zb (¬ x < 97 ∧ ¬ 122 < x)) h) : zOkI m_J_isSmallLetter [.inl x] h K := by
  refine o_J_isSmallLetter ⟨fun a => ⟨Or.inl rfl, ?_⟩, fun a => ⟨fun b => ⟨Or.inl rfl, ?_⟩, fun b => ⟨Or.inr rfl, ?_⟩⟩⟩
  · rwa [zbF (fun z => z.1 a)] at k
  · rwa [zbF (fun z => z.2 b)] at k
  · rwa [zbT ⟨a, b⟩] at k
theorem s_J_isWordByte (k : K (zb ((¬ x < 97 ∧ ¬ 122 < x) ∨ (¬ x < 48 ∧ ¬ 57 < x))) h) : zOkI m_J_isWordByte [.inl x] h K := by
  refine o_J_isWordByte (s_J_isSmallLetter (g_J_isWordByte_4 ⟨fun a => s_J_isDigit (g_J_isWordByte_11 ⟨fun b => ⟨Or.inl rfl, ?_⟩, fun b => ⟨Or.inr rfl, ?_⟩⟩), fun a => ⟨Or.inr rfl, ?_⟩⟩))
  · rwa [zbF (fun z => z.elim (zb0.mp a) (zb0.mp b))] at k
  · rwa [zbT (Or.inr (zb1.mp b))] at k
  · rwa [zbT (Or.inl (zb1.mp a))] at k
/-- a byte of a text -/
def tb (x : Int32) : Prop := x = 10 ∨ (¬ x < 32 ∧ ¬ 126 < x)
theorem s_J_isTextByte (k : K (zb (x = 10 ∨ (¬ x < 32 ∧ ¬ 126 < x))) h) : zOkI m_J_isTextByte [.inl x] h K := by
  refine o_J_isTextByte ⟨fun a => ⟨Or.inr rfl, ?_⟩, fun a => ⟨fun b => ⟨Or.inl rfl, ?_⟩, fun b => ⟨fun d => ⟨Or.inl rfl, ?_⟩, fun d => ⟨Or.inr rfl, ?_⟩⟩⟩⟩
  · rwa [zbT (Or.inl a)] at k
  · rwa [zbF (fun z => z.elim a (fun z => z.1 b))] at k
  · rwa [zbF (fun z => z.elim a (fun z => z.2 d))] at k
  · rwa [zbT (Or.inr ⟨b, d⟩)] at k
theorem s_J_isFile (k : K (zb (¬ x < 0 ∧ x < 6)) h) : zOkI m_J_isFile [.inl x] h K := by
  refine o_J_isFile ⟨fun a => ⟨Or.inl rfl, ?_⟩, fun a => ⟨fun b => ⟨Or.inr rfl, ?_⟩, fun b => ⟨Or.inl rfl, ?_⟩⟩⟩
  · rwa [zbF (fun z => z.1 a)] at k
  · rwa [zbT ⟨a, b⟩] at k
  · rwa [zbF (fun z => b z.2)] at k
theorem s_J_isJob (k : K (zb (¬ x < 0 ∧ x < 2)) h) : zOkI m_J_isJob [.inl x] h K := by
  refine o_J_isJob ⟨fun a => ⟨Or.inl rfl, ?_⟩, fun a => ⟨fun b => ⟨Or.inr rfl, ?_⟩, fun b => ⟨Or.inl rfl, ?_⟩⟩⟩
  · rwa [zbF (fun z => z.1 a)] at k
  · rwa [zbT ⟨a, b⟩] at k
  · rwa [zbF (fun z => b z.2)] at k
end SMALL
