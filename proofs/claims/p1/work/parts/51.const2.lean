/-! ===== the constants at the start: z_C ===== -/
theorem k_ext {a b : List Int32} (hL : a.length = b.length) (hB : ∀ k, k < a.length → a.getD k 0 = b.getD k 0) : a = b := by
  refine List.ext_getElem hL (fun k h1 h2 => ?_)
  have := hB k h1
  simpa [List.getD, h1, h2] using this
section KST
variable {s : State} {ar : Array Value} {A : Nat → Prop}
theorem k_str (hc : ∀ w ∈ k_all, w.before ar s = true) (hA : ∀ a : Nat, a < s.heap.size → ¬ A a) : ∃ adK adV : Nat → Nat, vk_S 26 (z_sb.map List.length) z_sb adK adV A s s.heap ∧ ∀ i : Nat, i < 26 → (k_tm i).eval ar s none [] s = some (.ref (adK i)) := by
  have hlen : ∀ i, i < 26 → (z_sb.map List.length).getD i 0 = (z_sb.getD i []).length := fun i hi => by
    have : (List.range 26).all (fun i => decide ((z_sb.map List.length).getD i 0 = (z_sb.getD i []).length)) = true := by decide +kernel
    exact co_dec this hi
  have hl31 : ∀ i, i < 26 → (z_sb.getD i []).length < 2 ^ 31 := fun i hi => co_dec (P := fun i => (z_sb.getD i []).length < 2 ^ 31) k_sb_ln hi
  have one : ∀ i : Nat, ∃ q : Nat × Nat, i < 26 → (k_tm i).eval ar s none [] s = some (.ref q.1) ∧ va_O "java/lang/String" q.1 A s s.heap ∧ va_OF "java/lang/String" "coder" "B" (.int 0) q.1 A s s.heap ∧ va_OF "java/lang/String" "value" "[B" (.ref q.2) q.1 A s s.heap ∧ va_T .byte q.2 (z_sb.getD i []).length (fun j => .int ((z_sb.getD i []).getD j 0)) A s s.heap := by
    intro i
    by_cases hi : i < 26
    · have hk : ∀ w ∈ k_kc i, w.before ar s = true := fun w hw => hc w (k_kc_in hi hw)
      obtain ⟨aK, aV, ⟨h1, -⟩, h2⟩ := vk_Sof (args := ar) (s := s) (N := 1) (tm := fun _ => k_tm i) (len := [(z_sb.getD i []).length]) (byt := [z_sb.getD i []]) (A := A) (fun j hj => by cases (show j = 0 by omega); exact hl31 i hi) (fun j _ => hk _ (by simp [k_kc])) (fun j _ => hk _ (by simp [k_kc])) (fun j _ => hk _ (by simp [k_kc, k_v])) (fun j hj => by cases (show j = 0 by omega); exact hk _ (by simp [k_kc, k_v])) (fun j hj m hm => by
        cases (show j = 0 by omega)
        exact hk _ (List.mem_cons_of_mem _ (List.mem_cons_of_mem _ (List.mem_cons_of_mem _ (List.mem_cons_of_mem _ (k_el_mem hm)))))) (fun a b ha hb hn => absurd (show a = b by omega) hn) hA
      exact ⟨(aK 0, aV 0), fun _ => ⟨h2 0 (by decide), h1 0 (by decide)⟩⟩
    · exact ⟨(0, 0), fun h => absurd h hi⟩
  obtain ⟨ad, had⟩ := Classical.axiomOfChoice one
  refine ⟨fun i => (ad i).1, fun i => (ad i).2, ⟨fun i hi => ?_, fun i j hi hj e => ?_⟩, fun i hi => (had i hi).1⟩
  · rw [hlen i hi]
    exact (had i hi).2
  · obtain ⟨-, -, -, c1, t1⟩ := had i hi
    obtain ⟨-, -, -, c2, t2⟩ := had j hj
    rw [← show (ad i).1 = (ad j).1 from e] at c2
    have hv : (ad i).2 = (ad j).2 := Value.ref.inj (k_OF_eq c1 c2)
    rw [← hv] at t2
    obtain ⟨hL, hB⟩ := k_T_eq t1 t2 (hl31 i hi) (hl31 j hj)
    have hq : z_sb.getD i [] = z_sb.getD j [] := k_ext hL (fun k h1 => Value.int.inj (hB k h1))
    exact co_dec (P := fun j => z_sb.getD i [] = z_sb.getD j [] → i = j) (co_dec (P := fun i => (List.range 26).all (fun j => decide (z_sb.getD i [] = z_sb.getD j [] → i = j)) = true) (by
      have h := k_sb_nd
      rw [List.all_eq_true] at h ⊢
      intro x hx
      exact decide_eq_true (h x hx)) hi) hj hq
theorem k_tab (hc : ∀ w ∈ k_all, w.before ar s = true) (hA : ∀ a : Nat, a < s.heap.size → ¬ A a) : ∃ adI : Nat → Nat, ∀ i, i < 2 → (k_ts i).eval ar s none [] s = some (.ref (adI i)) ∧ va_T .int (adI i) (z_ln (2, i, 0)) (fun j => .int ((z_ci.getD i []).getD j 0)) A s s.heap := by
  have one : ∀ i : Nat, ∃ t : Nat, i < 2 → (k_ts i).eval ar s none [] s = some (.ref t) ∧ va_T .int t (z_ln (2, i, 0)) (fun j => .int ((z_ci.getD i []).getD j 0)) A s s.heap := by
    intro i
    by_cases hi : i < 2
    · have hk : ∀ w ∈ k_ac (k_ts i) (z_ci.getD i []), w.before ar s = true := fun w hw => hc w (by
        unfold k_all
        refine List.mem_cons_of_mem _ (List.mem_cons_of_mem _ ?_)
        rcases (show i = 0 ∨ i = 1 by omega) with e | e <;> subst e
        · exact List.mem_append_left _ hw
        · exact List.mem_append_right _ (List.mem_append_left _ hw))
      have hn : z_ln (2, i, 0) = (z_ci.getD i []).length := by
        rcases (show i = 0 ∨ i = 1 by omega) with e | e <;> subst e <;> decide +kernel
      have h31 : (z_ci.getD i []).length < 2 ^ 31 := by
        rcases (show i = 0 ∨ i = 1 by omega) with e | e <;> subst e <;> decide +kernel
      obtain ⟨t, h1, h2⟩ := va_Tof (args := ar) (s := s) (tm := k_ts i) (ty := .int) (f := fun j => .int ((z_ci.getD i []).getD j 0)) (A := A) h31 (hk _ List.mem_cons_self) (va_eqt (hk _ (List.mem_cons_of_mem _ List.mem_cons_self))) (fun j hj => va_eqt (hk _ (List.mem_cons_of_mem _ (List.mem_cons_of_mem _ (k_el_mem hj))))) hA
      rw [hn]
      exact ⟨t, fun _ => ⟨h1, h2⟩⟩
    · exact ⟨0, fun h => absurd h hi⟩
  exact Classical.axiomOfChoice one
end KST
theorem k_const {s : State} {ar : Array Value} (hts : ∀ w ∈ lw_tbl, w.before ar s = true) (hgv : (Jvm.Cond.and given_1 narrow_1).before ar s = true) : ∃ (adK adV adI : Nat → Nat) (fm : Option Nat), ∀ cx : zX, cx.2.2.2.2 = s.heap.size → (∀ i, cx.2.1 (0, i, 0) = adK i) → (∀ i, cx.2.1 (1, i, 0) = adV i) → (∀ i, cx.2.1 (2, i, 0) = adI i) → cx.2.2.2.1 = fm → z_C cx s := by
  have hc : ∀ w ∈ k_all, w.before ar s = true := fun w hw => flat_of_before _ hgv w (k_sub_mem _ _ k_all_in w hw)
  have hA : ∀ a : Nat, a < s.heap.size → ¬ (fun q => s.heap.size ≤ q) a := fun a h1 h2 => absurd h1 (Nat.not_lt.mpr h2)
  obtain ⟨adK, adV, hS, hE⟩ := k_str (A := fun q => s.heap.size ≤ q) hc hA
  obtain ⟨adI, hI⟩ := k_tab (A := fun q => s.heap.size ≤ q) hc hA
  have hq : va_Zq "jdk/internal/util/Preconditions" "SIOOBE_FORMATTER" "Ljava/util/function/BiFunction;" (fun q => s.heap.size ≤ q) s s.heap := va_Zqof (args := ar) (hts _ (by decide +kernel)) (hts _ (by decide +kernel)) (hc _ (by simp [k_all])) hA
  obtain ⟨fm, hfm⟩ : ∃ fm : Option Nat, va_Z "jdk/internal/util/Preconditions" "SIOOBE_FORMATTER" "Ljava/util/function/BiFunction;" (va_rf fm) (fun q => s.heap.size ≤ q) s s.heap := by
    rcases hq with h | ⟨t, h⟩
    · exact ⟨none, h⟩
    · exact ⟨some t, h⟩
  refine ⟨adK, adV, adI, fm, fun cx c1 c2 c3 c4 c5 => ?_⟩
  have eA : z_A cx = (fun q => s.heap.size ≤ q) := by
    show (fun q => cx.2.2.2.2 ≤ q) = _
    rw [c1]
  have e2 : (fun i => cx.2.1 (0, i, 0)) = adK := funext c2
  have e3 : (fun i => cx.2.1 (1, i, 0)) = adV := funext c3
  unfold z_C
  rw [eA, e2, e3, c5, c4, c4]
  refine ⟨hS, va_Zof (args := ar) (hts _ (by decide +kernel)) (hts _ (by decide +kernel)) (va_eqi (hc _ (by simp [k_all]))) hA, hfm, va_Zof (args := ar) (hts _ (by decide +kernel)) (hts _ (by decide +kernel)) (hI 0 (by decide)).1 hA, va_Zof (args := ar) (hts _ (by decide +kernel)) (hts _ (by decide +kernel)) (hI 1 (by decide)).1 hA, fun i hi => by rw [c4]; exact (hI i hi).2, fun o r hr h2 => ?_, ?_, fun o r hr => ?_⟩
  · have h := k_rows k_mlsB hr
    simp only [h2, bne_self_eq_false, Bool.false_or, decide_eq_true_eq] at h
    exact va_Nw.of rfl (hts _ (List.mem_of_getElem? h))
  · exact va_Nw.of (A := ar) rfl (hts _ (by decide +kernel))
  · have h := k_rows k_slsB hr
    simp only [Bool.and_eq_true, Bool.or_eq_true, decide_eq_true_eq] at h
    obtain ⟨⟨h1, h2⟩, h3⟩ := h
    rw [c2]
    refine vk_R.of (hts _ h1) ?_
    rcases h3 with h3 | ⟨h3, h4, h5⟩
    · have := hE r.2.1 h2
      unfold k_tm at this
      rw [← h3] at this
      exact this
    · rw [h4, h5, h3]
      have := va_eqR (hc (.eq (k_tm 21) (.string "JobText$Pair" 70)) (by simp [k_all])) (hE 21 (by decide))
      exact this
