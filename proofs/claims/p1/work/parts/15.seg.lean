theorem zAt.mask {y pc : Nat} {L : zL} {st : List zV} {h : zH} {Q : Option zV → zH → Prop} {m : List Bool} (hm : m.length = (z_m y).2.2.1) (k : zAt y pc (z_mask m L) st h Q) : zAt y pc L st h Q := by
  intro hlen cx p l e s mm args below meth c H locs ls hE hP hL hS
  have e1 : m.length = L.length := hm.trans hlen.symm
  exact k ((z_mask_len m L e1).trans hlen) cx p l e s mm args below meth c H locs ls hE hP (hL.mask e1) hS
theorem z_find_spec {o y : Nat} {ret : Option FieldType} {b : ByteArray} : ∀ (C : List (Nat × Instr)) (p : Nat), z_okc o ret b C = true → z_okr y C = true → z_okc o ret b (z_find C p) = true ∧ z_okr y (z_find C p) = true ∧ (z_find C p = [] ∨ ∃ i t, z_find C p = (p, i) :: t)
  | [], p, h1, h2 => ⟨h1, h2, Or.inl rfl⟩
  | (q, i) :: t, p, h1, h2 => by
    cases hb : Nat.beq q p with
    | true =>
      have e : z_find ((q, i) :: t) p = (q, i) :: t := by simp [z_find, hb]
      rw [e]
      have := Nat.eq_of_beq_eq_true hb
      subst this
      exact ⟨h1, h2, Or.inr ⟨i, t, rfl⟩⟩
    | false =>
      have e : z_find ((q, i) :: t) p = z_find t p := by simp [z_find, hb]
      rw [e]
      simp only [z_okc, Bool.and_eq_true] at h1
      simp only [z_okr, Bool.and_eq_true] at h2
      exact z_find_spec t p h1.2 h2.2
theorem z_cutAt_mem {m : List Bool} : ∀ {ct : List (Nat × List Bool)} {p : Nat}, z_cutAt ct p = some m → ∃ q ∈ ct, q.2 = m
  | [], p, h => by simp [z_cutAt] at h
  | (q, m') :: t, p, h => by
    cases hb : Nat.beq q p with
    | true =>
      simp [z_cutAt, hb] at h
      exact ⟨_, List.mem_cons_self, h⟩
    | false =>
      simp [z_cutAt, hb] at h
      obtain ⟨x, hx, e⟩ := z_cutAt_mem h
      exact ⟨x, List.mem_cons_of_mem _ hx, e⟩
theorem z_wp_succ {y : Nat} {C : List (Nat × Instr)} {ct : List (Nat × List Bool)} {Q : Option zV → zH → Prop} {n pc : Nat} {i : Instr} {rest : List (Nat × Instr)} {L : zL} {st : List zV} {h : zH} : z_wp y C ct Q (n + 1) ((pc, i) :: rest) L st h = z_ins i
      (fun L st h => match rest with
        | [] => False
        | (p, _) :: _ => (match z_cutAt ct p with
          | some m => zAt y p (z_mask m L) st h Q
          | none => z_wp y C ct Q n rest L st h))
      (fun L st h => match rest with
        | [] => False
        | (p, _) :: _ => (match z_cutAt ct p with
          | some m => zAt y p (z_mask m L) st h Q
          | none => zAt y p L st h Q))
      (fun p L st h => match z_cutAt ct p with
        | some m => zAt y p (z_mask m L) st h Q
        | none => z_wp y C ct Q n (z_find C p) L st h) Q L st h := rfl
theorem z_wp_sound {y : Nat} (hy : y < 247) {C : List (Nat × Instr)} {ct : List (Nat × List Bool)} {Q : Option zV → zH → Prop} (hC : z_okc (z_m y).2.2.2.2.1.1 (z_m y).2.2.2.1 (z_m y).2.1 C = true) (hR : z_okr y C = true) (hct : ct.all (fun q => Nat.beq q.2.length (z_m y).2.2.1) = true) :
    ∀ (n : Nat) (pc : Nat) (i : Instr) (rest : List (Nat × Instr)) (L : zL) (st : List zV) (h : zH), z_okc (z_m y).2.2.2.2.1.1 (z_m y).2.2.2.1 (z_m y).2.1 ((pc, i) :: rest) = true → z_okr y ((pc, i) :: rest) = true → z_wp y C ct Q n ((pc, i) :: rest) L st h → zAt y pc L st h Q := by
  have hcut : ∀ {p : Nat} {m : List Bool}, z_cutAt ct p = some m → m.length = (z_m y).2.2.1 := by
    intro p m e
    obtain ⟨q, hq, e2⟩ := z_cutAt_mem e
    rw [← e2]
    exact Nat.eq_of_beq_eq_true (List.all_eq_true.mp hct q hq)
  intro n
  induction n with
  | zero => intro pc i rest L st h _ _ hw; exact False.elim hw
  | succ n ih =>
    intro pc i rest L st h h1 h2 hw
    rw [z_wp_succ] at hw
    have h1' := h1
    simp only [z_okc, Bool.and_eq_true] at h1
    obtain ⟨h3, h4⟩ := h1
    have h2' := h2
    simp only [z_okr, Bool.and_eq_true] at h2
    have h5 : z_okr y [(pc, i)] = true := by
      simp only [z_okr, Bool.and_eq_true]
      exact ⟨h2.1, trivial⟩
    cases hd : decode (z_m y).2.1 pc with
    | error e => rw [hd] at h3; cases h3
    | ok rl =>
      obtain ⟨r, len⟩ := rl
      rw [hd] at h3
      simp only [Bool.and_eq_true, decide_eq_true_eq] at h3
      obtain ⟨⟨hl, hlk⟩, hnext⟩ := h3
      subst hlk
      refine z_step hy hd hl h5 ?_ ?_ ?_ hw
      · intro L1 st1 hh hn
        cases rest with
        | nil => exact False.elim hn
        | cons q t =>
          obtain ⟨p, i2⟩ := q
          have hp := Nat.eq_of_beq_eq_true hnext
          subst hp
          dsimp only at hn
          cases hc : z_cutAt ct (pc + len) with
          | some m => rw [hc] at hn; exact zAt.mask (hcut hc) hn
          | none => rw [hc] at hn; exact ih _ _ _ _ _ _ h4 h2.2 hn
      · intro L1 st1 hh hn
        cases rest with
        | nil => exact False.elim hn
        | cons q t =>
          obtain ⟨p, i2⟩ := q
          have hp := Nat.eq_of_beq_eq_true hnext
          subst hp
          dsimp only at hn
          cases hc : z_cutAt ct (pc + len) with
          | some m => rw [hc] at hn; exact zAt.mask (hcut hc) hn
          | none => rw [hc] at hn; exact hn
      · intro p L1 st1 hh hn
        cases hc : z_cutAt ct p with
        | some m => rw [hc] at hn; exact zAt.mask (hcut hc) hn
        | none =>
          rw [hc] at hn
          obtain ⟨g1, g2, g3⟩ := z_find_spec C p hC hR
          rcases g3 with g3 | ⟨i2, t, g3⟩
          · rw [g3] at hn
            cases n with
            | zero => exact False.elim hn
            | succ n => exact False.elim hn
          · rw [g3] at hn g1 g2
            exact ih _ _ _ _ _ _ g1 g2 hn
/-- a segment: what its formula says, from a place on -/
theorem z_seg {y : Nat} (hy : y < 247) {C : List (Nat × Instr)} {ct : List (Nat × List Bool)} {Q : Option zV → zH → Prop} (hC : z_okc (z_m y).2.2.2.2.1.1 (z_m y).2.2.2.1 (z_m y).2.1 C = true) (hR : z_okr y C = true) (hct : ct.all (fun q => Nat.beq q.2.length (z_m y).2.2.1) = true)
    {n pc : Nat} {L : zL} {st : List zV} {h : zH} (hw : z_wp y C ct Q n (z_find C pc) L st h) : zAt y pc L st h Q := by
  obtain ⟨g1, g2, g3⟩ := z_find_spec C pc hC hR
  rcases g3 with g3 | ⟨i2, t, g3⟩
  · rw [g3] at hw
    cases n with
    | zero => exact False.elim hw
    | succ n => exact False.elim hw
  · rw [g3] at hw g1 g2
    exact z_wp_sound hy hC hR hct n pc i2 t L st h g1 g2 hw
