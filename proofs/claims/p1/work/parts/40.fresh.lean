/-! ===== a fresh object: the first call ===== -/
def fr (h : zH) : Prop := tx h [] (fun _ => []) [] ∧ (h.1 (21, 0, 0) 9 = 0 ∧ h.1 (22, 0, 0) 76 = 0) ∧ (h.1 (21, 0, 0) 11 = 0 ∧ h.1 (22, 0, 0) 80 = 0) ∧
  (h.1 (11, 0, 0) 0 = 0 ∧ h.1 (11, 0, 0) 1 = -5 ∧ h.1 (11, 0, 0) 2 = -5 ∧ h.1 (11, 0, 0) 3 = 0) ∧ (h.1 (22, 0, 0) 12 = 0 ∧ h.1 (22, 0, 0) 13 = -5 ∧ h.1 (22, 0, 0) 14 = -5) ∧
  (h.2.2 (32, 0, 0) 0 = some (14, 0, 0) ∧ h.2.2 (32, 0, 0) 1 = some (14, 1, 0) ∧ h.2.2 (21, 0, 0) 4 = some (14, 2, 0)) ∧ (∀ c, c < 3 → h.1 (14, c, 0) 0 = 0) ∧ ∀ b, b < 2 → h.1 (116, 0, 0) b = 0
theorem fr.job {h : zH} (a : fr h) {n : Nat} (hn : n < 2) : h.2.2 (32, 0, 0) n = some (14, n, 0) ∧ h.1 (14, n, 0) 0 = 0 := by
  obtain ⟨-, -, -, -, -, a6, a7, -⟩ := a
  refine ⟨?_, a7 n (by omega)⟩
  rcases (show n = 0 ∨ n = 1 by omega) with e | e <;> subst e
  · exact a6.1
  · exact a6.2.1
theorem isj {x : Int32} : (¬ x < 0 ∧ ¬ 1 < x) ↔ (¬ x < 0 ∧ x < 2) := by
  rw [Int32.lt_iff_toInt_lt, Int32.lt_iff_toInt_lt, Int32.lt_iff_toInt_lt, show (1 : Int32).toInt = 1 from rfl, show (2 : Int32).toInt = 2 from rfl]
  omega
theorem isj_nI {x : Int32} (h : ¬ x < 0 ∧ x < 2) : ∃ n, n < 2 ∧ x = nI n := by
  obtain ⟨n, hn, rfl⟩ := nI_of h.1
  exact ⟨n, (nI_ltI (b := 2) hn (by decide)).mp h.2, rfl⟩
/-- the refusal's answer, nothing being read -/
def rf (x : Int32) (g : Prop) [Decidable g] : Int32 := if (¬ x < 0 ∧ x < 2) ∧ g then -2 else -1
theorem rf_ne {x : Int32} {g : Prop} [Decidable g] : ¬ rf x g = 0 := by
  unfold rf
  split <;> decide
theorem rf_neg {x : Int32} {g : Prop} [Decidable g] : rf x g < 0 := by
  unfold rf
  split <;> decide
section FRESH
variable {h : zH} {x w g : Int32}
theorem f_J_refusal {K : Int32 → zH → Prop} (a : fr h) (k : K (rf x (¬ w < 0 ∧ ¬ g < w)) h) : zOkI m_J_refusal [.inr (.inr (21, 0, 0)), .inl x, .inl w, .inl g] h K := by
  unfold rf at k
  refine o_J_refusal (s_J_isJob (g_J_refusal_4 ⟨fun c => ?_, fun c => ⟨fun d => ?_, fun d => ⟨fun e => ?_, fun e => ?_⟩⟩⟩))
  · rwa [if_neg (fun z => zb0.mp c z.1)] at k
  · rwa [if_neg (fun z => z.2.1 d)] at k
  · rwa [if_neg (fun z => z.2.2 e)] at k
  · have c' := zb1.mp c
    rw [if_pos ⟨c', d, e⟩] at k
    obtain ⟨n, hn, rfl⟩ := isj_nI c'
    have hj := a.job hn
    rw [nI_clamp (by omega)]
    exact ⟨vp_in_nI hn (by decide), n, 0, hj.1, fun _ => k, fun z => absurd hj.2 z⟩
theorem f_J_operatorRefusal {K : Int32 → zH → Prop} {o : Int32} (a : fr h) (k : K (rf x (¬ w < 0 ∧ ¬ g < w)) h) : zOkI m_J_operatorRefusal [.inr (.inr (21, 0, 0)), .inl x, .inl o, .inl w, .inl g] h K := o_J_operatorRefusal (f_J_refusal a (g_J_operatorRefusal_8 ⟨fun c => absurd c rf_ne, fun _ => k⟩))
theorem f_M_against {K : Int32 → zH → Prop} (a : fr h) (k : K (rf x (¬ g = 0)) h) : zOkI m_M_against [.inr (.inr (22, 0, 0)), .inl x, .inl g] h K := by
  unfold rf at k
  refine o_M_against (s_M_in (g_M_against_6 ⟨fun c => ?_, fun c => ⟨fun d => ?_, fun d => ?_⟩⟩))
  · rwa [if_neg (fun z => zb0.mp c (isj.mpr z.1))] at k
  · rwa [if_neg (fun z => z.2 d)] at k
  · have c' := isj.mp (zb1.mp c)
    rw [if_pos ⟨c', d⟩] at k
    obtain ⟨n, hn, rfl⟩ := isj_nI c'
    rw [nI_clamp (by omega)]
    exact ⟨vp_in_nI (by omega) (by decide), fun _ => k, fun z => absurd (a.2.2.2.2.2.2.2 n hn) z⟩
theorem f_M_againstOne {K : Int32 → zH → Prop} {o n : Int32} (a : fr h) (k : K (rf x (¬ g = 0)) h) : zOkI m_M_againstOne [.inr (.inr (22, 0, 0)), .inl x, .inl g, .inl o, .inl n] h K := o_M_againstOne (f_M_against a (g_M_againstOne_6 ⟨fun _ => k, fun c => absurd rf_neg c⟩))
theorem f_M_countOf1 {K : Int32 → zH → Prop} (k : ∀ r, K r h) : zOkI m_M_countOf [.inr (.inr (22, 0, 0)), .inr (.inr (117, 0, 0)), .inl x] h K := by
  refine o_M_countOf_operators (s_M_in (g_M_countOf_6_operators ⟨fun _ => k _, fun c => ?_⟩))
  obtain ⟨n, hn, rfl⟩ := isj_nI (isj.mp (zb1.mp c))
  exact ⟨vp_in_nI (by omega) (by decide), k _⟩
theorem f_M_countOf2 {K : Int32 → zH → Prop} (k : ∀ r, K r h) : zOkI m_M_countOf [.inr (.inr (22, 0, 0)), .inr (.inr (118, 0, 0)), .inl x] h K := by
  refine o_M_countOf_sets (s_M_in (g_M_countOf_6_sets ⟨fun _ => k _, fun c => ?_⟩))
  obtain ⟨n, hn, rfl⟩ := isj_nI (isj.mp (zb1.mp c))
  exact ⟨vp_in_nI (by omega) (by decide), k _⟩
theorem f_M_countOf3 {K : Int32 → zH → Prop} (k : ∀ r, K r h) : zOkI m_M_countOf [.inr (.inr (22, 0, 0)), .inr (.inr (119, 0, 0)), .inl x] h K := by
  refine o_M_countOf_loops (s_M_in (g_M_countOf_6_loops ⟨fun _ => k _, fun c => ?_⟩))
  obtain ⟨n, hn, rfl⟩ := isj_nI (isj.mp (zb1.mp c))
  exact ⟨vp_in_nI (by omega) (by decide), k _⟩
theorem rf_zb {p : Prop} [Decidable p] : rf x (¬ zb p = 0) = rf x p := by
  unfold rf
  by_cases hp : p
  · by_cases hx : ¬ x < 0 ∧ x < 2
    · rw [if_pos ⟨hx, zb1.mpr hp⟩, if_pos ⟨hx, hp⟩]
    · rw [if_neg (fun z => hx z.1), if_neg (fun z => hx z.1)]
  · rw [if_neg (fun z => hp (zb1.mp z.2)), if_neg (fun z => hp z.2)]
theorem rf_11 {p : Prop} [Decidable p] (hp : p) : rf x (¬ (1 : Int32) = 0) = rf x p := by
  unfold rf
  by_cases hx : ¬ x < 0 ∧ x < 2
  · rw [if_pos ⟨hx, by decide⟩, if_pos ⟨hx, hp⟩]
  · rw [if_neg (fun z => hx z.1), if_neg (fun z => hx z.1)]
end FRESH
section FPUB
variable {h : zH} {K : Int32 → Int32 → zH → Prop} {x y z u : Int32}
theorem F_numbers (a : fr h) (k : ∀ r, K r r h) : zOkI m_J_numbers [.inr (.inr (21, 0, 0))] h (fun r h1 => zOkI m_M_numbers [.inr (.inr (22, 0, 0))] h1 (fun r' h2 => K r r' h2)) := by
  refine o_J_numbers (o_M_numbers ?_)
  rw [a.2.1.1, a.2.1.2]
  exact k 0
theorem F_numbered (a : fr h) (k : ∀ r, K r r h) : zOkI m_J_numbered [.inr (.inr (21, 0, 0)), .inl x, .inl y] h (fun r h1 => zOkI m_M_numbered [.inr (.inr (22, 0, 0)), .inl x, .inl y] h1 (fun r' h2 => K r r' h2)) := by
  have m : zOkI m_M_numbered [.inr (.inr (22, 0, 0)), .inl x, .inl y] h (fun r' h2 => K (-1) r' h2) := by
    refine o_M_numbered ?_
    rw [a.2.1.2]
    refine s_M_in (g_M_numbered_11 ⟨fun _ => k _, fun c => ?_⟩)
    have c' := (nI_in1 (n := 0) (by decide)).mp (zb1.mp c)
    exact absurd c'.2 c'.1
  refine o_J_numbered ⟨fun _ => m, fun c => ?_⟩
  rw [a.2.1.1]
  exact ⟨fun d => absurd d c, fun _ => m⟩
theorem F_difference (a : fr h) (k : ∀ r, K r r h) : zOkI m_J_difference [.inr (.inr (21, 0, 0)), .inl x, .inl y] h (fun r h1 => zOkI m_M_difference [.inr (.inr (22, 0, 0)), .inl x, .inl y] h1 (fun r' h2 => K r r' h2)) := by
  have m : zOkI m_M_difference [.inr (.inr (22, 0, 0)), .inl x, .inl y] h (fun r' h2 => K (-1) r' h2) := by
    refine o_M_difference ?_
    rw [a.2.2.1.2]
    refine s_M_in (g_M_difference_11 ⟨fun _ => k _, fun c => ?_⟩)
    have c' := (nI_in1 (n := 0) (by decide)).mp (zb1.mp c)
    exact absurd c'.2 c'.1
  refine o_J_difference ⟨fun _ => m, fun c => ?_⟩
  rw [a.2.2.1.1]
  exact ⟨fun d => absurd d c, fun _ => m⟩
theorem F_fault (a : fr h) (k : ∀ r, K r r h) : zOkI m_J_fault [.inr (.inr (21, 0, 0)), .inl x] h (fun r h1 => zOkI m_M_fault [.inr (.inr (22, 0, 0)), .inl x] h1 (fun r' h2 => K r r' h2)) := by
  obtain ⟨-, -, -, ⟨c0, c1, c2, c3⟩, ⟨m0, m1, m2⟩, -⟩ := a
  have no : ∀ {i j : Int32}, i ≠ j → x = i → x = j → False := fun h1 h2 h3 => h1 (h2.symm.trans h3)
  have out : ∀ {i : Int32}, x = i → 0 ≤ i.toInt → i.toInt ≤ 3 → (x.toInt < 0 ∨ 3 < x.toInt) → False := fun e h1 h2 z => by rw [e] at z; omega
  refine o_J_fault ⟨⟨fun e => ?_, fun e => ?_, fun e => ?_, fun e => ?_, trivial⟩, fun e => ?_⟩
  · rw [c0]
    refine o_M_fault ⟨⟨fun _ => by rw [m0]; exact k _, fun d => (no (by decide) e d).elim, fun d => (no (by decide) e d).elim, fun d => (no (by decide) e d).elim, trivial⟩, fun d => (out e (by decide) (by decide) d).elim⟩
  · rw [c1]
    refine o_M_fault ⟨⟨fun d => (no (by decide) e d).elim, fun _ => by rw [m1]; exact k _, fun d => (no (by decide) e d).elim, fun d => (no (by decide) e d).elim, trivial⟩, fun d => (out e (by decide) (by decide) d).elim⟩
  · rw [c2]
    refine o_M_fault ⟨⟨fun d => (no (by decide) e d).elim, fun d => (no (by decide) e d).elim, fun _ => by rw [m2]; exact k _, fun d => (no (by decide) e d).elim, trivial⟩, fun d => (out e (by decide) (by decide) d).elim⟩
  · rw [c3]
    refine o_M_fault ⟨⟨fun d => (no (by decide) e d).elim, fun d => (no (by decide) e d).elim, fun d => (no (by decide) e d).elim, fun _ => ⟨fun d => absurd (m0.symm.trans d) (by decide), fun _ => k _⟩, trivial⟩, fun d => (out e (by decide) (by decide) d).elim⟩
  · refine o_M_fault ⟨⟨fun d => (out d (by decide) (by decide) e).elim, fun d => (out d (by decide) (by decide) e).elim, fun d => (out d (by decide) (by decide) e).elim, fun d => (out d (by decide) (by decide) e).elim, trivial⟩, fun _ => k _⟩
theorem F_drop (a : fr h) (k : ∀ r, K r r h) : zOkI m_J_drop [.inr (.inr (21, 0, 0)), .inl x] h (fun r h1 => zOkI m_M_drop [.inr (.inr (22, 0, 0)), .inl x] h1 (fun r' h2 => K r r' h2)) := by
  have m : zOkI m_M_drop [.inr (.inr (22, 0, 0)), .inl x] h (fun r' h2 => K (rf x True) r' h2) := by
    refine o_M_drop (f_M_against a (g_M_drop_6 ⟨fun c => absurd c rf_ne, fun _ => ⟨fun _ => ?_, fun c => absurd rf_neg c⟩⟩))
    rw [rf_11 trivial]
    exact k _
  unfold rf at m
  refine o_J_drop (s_J_isJob (g_J_drop_4 ⟨fun c => ?_, fun c => ?_⟩))
  · rwa [if_neg (fun z => zb0.mp c z.1)] at m
  · have c' := zb1.mp c
    rw [if_pos ⟨c', trivial⟩] at m
    obtain ⟨n, hn, rfl⟩ := isj_nI c'
    have hj := a.job hn
    rw [nI_clamp (by omega)]
    exact ⟨vp_in_nI hn (by decide), n, 0, hj.1, fun _ => m, fun z => absurd hj.2 z⟩
theorem F_count (a : fr h) (k : ∀ r, K r r h) : zOkI m_J_count [.inr (.inr (21, 0, 0)), .inl x, .inl y] h (fun r h1 => zOkI m_M_count [.inr (.inr (22, 0, 0)), .inl x, .inl y] h1 (fun r' h2 => K r r' h2)) := by
  refine o_J_count (f_J_refusal a (g_J_count_8 ⟨fun c => absurd c rf_ne, fun _ => ?_⟩))
  refine o_M_count (s_M_in (g_M_count_9 (f_M_against a (g_M_count_12 ⟨fun _ => ?_, fun c => absurd rf_neg c⟩))))
  rw [rf_zb]
  exact k _
theorem F_operator (a : fr h) (k : ∀ r, K r r h) : zOkI m_J_operator [.inr (.inr (21, 0, 0)), .inl x, .inl y, .inl z] h (fun r h1 => zOkI m_M_operator [.inr (.inr (22, 0, 0)), .inl x, .inl y, .inl z] h1 (fun r' h2 => K r r' h2)) := by
  refine o_J_operator (f_J_operatorRefusal a (g_J_operator_9 ⟨fun c => absurd c rf_ne, fun _ => ?_⟩))
  refine o_M_operator (s_M_in (g_M_operator_9 (f_M_countOf1 (fun r => g_M_operator_19 (f_M_againstOne a (g_M_operator_22 ⟨fun _ => ?_, fun c => absurd rf_neg c⟩))))))
  rw [rf_zb]
  exact k _
theorem F_letter (a : fr h) (k : ∀ r, K r r h) : zOkI m_J_letter [.inr (.inr (21, 0, 0)), .inl x, .inl y, .inl z, .inl u] h (fun r h1 => zOkI m_M_letter [.inr (.inr (22, 0, 0)), .inl x, .inl y, .inl z, .inl u] h1 (fun r' h2 => K r r' h2)) := by
  refine o_J_letter (f_J_operatorRefusal a (g_J_letter_8 ⟨fun c => absurd c rf_ne, fun _ => ?_⟩))
  refine o_M_letter (s_M_in (g_M_letter_8 (f_M_countOf1 (fun r => g_M_letter_18 (f_M_againstOne a (g_M_letter_21 ⟨fun _ => ?_, fun c => absurd rf_neg c⟩))))))
  rw [rf_zb]
  exact k _
theorem F_input (a : fr h) (k : ∀ r, K r r h) : zOkI m_J_input [.inr (.inr (21, 0, 0)), .inl x, .inl y, .inl z, .inl u] h (fun r h1 => zOkI m_M_input [.inr (.inr (22, 0, 0)), .inl x, .inl y, .inl z, .inl u] h1 (fun r' h2 => K r r' h2)) := by
  refine o_J_input (f_J_operatorRefusal a (g_J_input_9 ⟨fun c => absurd c rf_ne, fun _ => ?_⟩))
  refine o_M_input (s_M_in (g_M_input_9 (f_M_countOf1 (fun r => g_M_input_19 (f_M_againstOne a (g_M_input_22 ⟨fun _ => ?_, fun c => absurd rf_neg c⟩))))))
  rw [rf_zb]
  exact k _
theorem F_flow (a : fr h) (k : ∀ r, K r r h) : zOkI m_J_flow [.inr (.inr (21, 0, 0)), .inl x, .inl y, .inl z] h (fun r h1 => zOkI m_M_flow [.inr (.inr (22, 0, 0)), .inl x, .inl y, .inl z] h1 (fun r' h2 => K r r' h2)) := by
  refine o_J_flow (f_J_operatorRefusal a (g_J_flow_8 ⟨fun c => absurd c rf_ne, fun _ => ?_⟩))
  refine o_M_flow (s_M_in (g_M_flow_8 (f_M_countOf1 (fun r => g_M_flow_18 (f_M_againstOne a (g_M_flow_21 ⟨fun _ => ?_, fun c => absurd rf_neg c⟩))))))
  rw [rf_zb]
  exact k _
theorem F_set (a : fr h) (k : ∀ r, K r r h) : zOkI m_J_set [.inr (.inr (21, 0, 0)), .inl x, .inl y, .inl z] h (fun r h1 => zOkI m_M_set [.inr (.inr (22, 0, 0)), .inl x, .inl y, .inl z] h1 (fun r' h2 => K r r' h2)) := by
  refine o_J_set (f_J_refusal a (g_J_set_7 ⟨fun c => absurd c rf_ne, fun _ => ?_⟩))
  refine o_M_set (s_M_in (g_M_set_8 (f_M_countOf2 (fun r => g_M_set_18 (f_M_againstOne a (g_M_set_21 ⟨fun _ => ?_, fun c => absurd rf_neg c⟩))))))
  rw [rf_zb]
  exact k _
theorem F_loop (a : fr h) (k : ∀ r, K r r h) : zOkI m_J_loop [.inr (.inr (21, 0, 0)), .inl x, .inl y, .inl z] h (fun r h1 => zOkI m_M_loop [.inr (.inr (22, 0, 0)), .inl x, .inl y, .inl z] h1 (fun r' h2 => K r r' h2)) := by
  refine o_J_loop (f_J_refusal a (g_J_loop_7 ⟨fun c => absurd c rf_ne, fun _ => ?_⟩))
  refine o_M_loop (s_M_in (g_M_loop_8 (f_M_countOf3 (fun r => g_M_loop_18 (f_M_againstOne a (g_M_loop_21 ⟨fun _ => ?_, fun c => absurd rf_neg c⟩))))))
  rw [rf_zb]
  exact k _
theorem F_setLetter (a : fr h) (k : ∀ r, K r r h) : zOkI m_J_setLetter [.inr (.inr (21, 0, 0)), .inl x, .inl y, .inl z, .inl u] h (fun r h1 => zOkI m_M_setLetter [.inr (.inr (22, 0, 0)), .inl x, .inl y, .inl z, .inl u] h1 (fun r' h2 => K r r' h2)) := by
  refine o_J_setLetter (f_J_refusal a (g_J_setLetter_7 ⟨fun c => absurd c rf_ne, fun _ => ?_⟩))
  refine o_M_setLetter (f_M_countOf2 (fun r => g_M_setLetter_13 (f_M_againstOne a (g_M_setLetter_16 ⟨fun _ => ?_, fun c => absurd rf_neg c⟩))))
  rw [rf_11 (p := ¬ (0 : Int32) < 0 ∧ ¬ (0 : Int32) < 0) (by decide)]
  exact k _
theorem F_print (a : fr h) (k : ∀ r, K r r h) : zOkI m_J_print [.inr (.inr (21, 0, 0)), .inl x] h (fun r h1 => zOkI m_M_print [.inr (.inr (22, 0, 0)), .inl x] h1 (fun r' h2 => K r r' h2)) := by
  refine o_J_print (f_J_refusal a (g_J_print_7 ⟨fun c => absurd c rf_ne, fun _ => ?_⟩))
  refine o_M_print (f_M_against a (g_M_print_6 ⟨fun _ => ?_, fun c => absurd rf_neg c⟩))
  rw [rf_11 (p := ¬ (0 : Int32) < 0 ∧ ¬ (0 : Int32) < 0) (by decide)]
  exact k _
theorem F_differ (a : fr h) (k : ∀ r, K r r h) : zOkI m_J_differ [.inr (.inr (21, 0, 0))] h (fun r h1 => zOkI m_M_differ [.inr (.inr (22, 0, 0))] h1 (fun r' h2 => K r r' h2)) := by
  have hj := a.job (n := 0) (by decide)
  refine o_J_differ ⟨vp_in_nI (n := 0) (by decide) (by decide), 0, 0, hj.1, fun _ => ?_, fun c => absurd hj.2 c⟩
  exact o_M_differ ⟨vp_in_nI (n := 0) (by decide) (by decide), fun _ => k _, fun c => absurd (a.2.2.2.2.2.2.2 0 (by decide)) c⟩
end FPUB
