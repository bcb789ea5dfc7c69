/-! ===== the classes at the start: va_K ===== -/
def k_ty (t : Nat) : FieldType := ([.int, .long, .byte, .boolean, .object RX0, .object RX4, .object RX7, .object RX3, .object RX8, .object RX2] : List FieldType).getD t .int
theorem k_arrP {s : State} {ar : Array Value} {ty : FieldType} (h : (Cond.arrayClass ty).before ar s = true) (hn : ∀ C, ty ≠ .object C) : ∃ cA : ClassId, ArrOfT s cA ty ∧ va_RA s cA ty := by
  obtain ⟨c, k, comp, h1, h2, h3⟩ := Cond.arrayClass_spec h
  refine ⟨c, fun n z => ⟨fun k h => (by cases h), k, h2, comp, h3⟩, ?_⟩
  unfold va_RA
  split
  · next C => exact absurd rfl (hn C)
  · exact h1
theorem k_arrO {s : State} {ar : Array Value} {C : String} (h : (Cond.arrayOver (.object C)).before ar s = true) : ∃ cA : ClassId, ArrOfT s cA (.object C) ∧ va_RA s cA (.object C) := by
  obtain ⟨comp, c, k, h1, h2, h3, h4, h5⟩ := Cond.arrayOver_spec h
  exact ⟨c, fun n z => ⟨fun k h => (by cases h), k, h3, comp, h4⟩, k, comp, h3, h4, h1, h5⟩
theorem k_clsB : (zcl.all fun q => decide (Cond.instantiable q.1 q.2.2 ∈ lw_tbl)) = true := by decide +kernel
theorem k_known {s : State} {ar : Array Value} (hts : ∀ w ∈ lw_tbl, w.before ar s = true) : ∃ (G : va_G) (ac : Nat → ClassId), ∀ cx : zX, cx.1 = G → cx.2.2.1 = ac → va_K cx.1 zcl (z_tys cx) s := by
  have cl : ∀ c : Nat, ∃ g : ClassId × (Nat → Nat), ∀ q : vw_C, zcl[c]? = some q → u_Kn s q.1 q.2.1 q.2.2 g.1 g.2 := by
    intro c
    cases h : zcl[c]? with
    | none => exact ⟨(0, fun _ => 0), fun q hq => by cases hq⟩
    | some q =>
      obtain ⟨cC, iS, hk⟩ := u_known (C := q.1) (T := q.2.1) (N := q.2.2) (n := q.2.2) (ws := zTG) (fun w hw => hts w (List.mem_filter.mp hw).1) (zcl_words h) (hts _ (of_decide_eq_true (List.all_eq_true.mp k_clsB q (List.mem_of_getElem? h))))
      exact ⟨(cC, iS), fun q' hq => by cases hq; exact hk⟩
  have aw : ∀ t : Nat, ∃ cA : ClassId, t < 10 → ArrOfT s cA (k_ty t) ∧ va_RA s cA (k_ty t) := by
    intro t
    by_cases ht : t < 10
    · have : ∃ cA : ClassId, ArrOfT s cA (k_ty t) ∧ va_RA s cA (k_ty t) := by
        rcases (show t = 0 ∨ t = 1 ∨ t = 2 ∨ t = 3 ∨ t = 4 ∨ t = 5 ∨ t = 6 ∨ t = 7 ∨ t = 8 ∨ t = 9 by omega) with e | e | e | e | e | e | e | e | e | e <;> subst e
        · exact k_arrP (ar := ar) (ty := .int) (hts _ (by decide +kernel)) (fun C h => by cases h)
        · exact k_arrP (ar := ar) (ty := .long) (hts _ (by decide +kernel)) (fun C h => by cases h)
        · exact k_arrP (ar := ar) (ty := .byte) (hts _ (by decide +kernel)) (fun C h => by cases h)
        · exact k_arrP (ar := ar) (ty := .boolean) (hts _ (by decide +kernel)) (fun C h => by cases h)
        · exact k_arrO (ar := ar) (C := RX0) (hts _ (by decide +kernel))
        · exact k_arrO (ar := ar) (C := RX4) (hts _ (by decide +kernel))
        · exact k_arrO (ar := ar) (C := RX7) (hts _ (by decide +kernel))
        · exact k_arrO (ar := ar) (C := RX3) (hts _ (by decide +kernel))
        · exact k_arrO (ar := ar) (C := RX8) (hts _ (by decide +kernel))
        · exact k_arrO (ar := ar) (C := RX2) (hts _ (by decide +kernel))
      obtain ⟨cA, h⟩ := this
      exact ⟨cA, fun _ => h⟩
    · exact ⟨0, fun h => absurd h ht⟩
  obtain ⟨g, hg⟩ := Classical.axiomOfChoice cl
  obtain ⟨ac, hac⟩ := Classical.axiomOfChoice aw
  refine ⟨(fun c => (g c).1, fun c => (g c).2), ac, fun cx e1 e2 => ?_⟩
  rw [e1]
  refine ⟨fun c q hq => hg c q hq, fun k q hk => ?_⟩
  have hk10 : k < 10 := by
    have := (List.getElem?_eq_some_iff.mp hk).1
    exact this
  have hz : z_tys cx = (List.range 10).map (fun t => (ac t, k_ty t)) := by
    unfold z_tys
    rw [e2]
    rfl
  rw [hz, List.getElem?_map, List.getElem?_range hk10] at hk
  cases hk
  exact hac k hk10
