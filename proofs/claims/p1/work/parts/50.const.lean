/-! ===== the constants at the start ===== -/
/-- where each literal stands first -/
def k_st : List (String × Nat) := [("JobText$Words", 34), ("JobText$Words", 89), ("JobText$Operator", 96), ("JobText$Operator", 98), ("JobText$Operator", 110), ("JobText$Operator", 148), ("JobText$Operator", 150), ("JobText$Operator", 152), ("JobText$Operator", 154), ("JobText$Operator", 156), ("JobText$Operator", 158), ("JobText$Operator", 160), ("JobText$Operator", 162), ("JobText$Operator", 116), ("JobText$Operator", 164), ("JobText$Operator", 122), ("JobText$Operator", 128), ("JobText$Operator", 130), ("JobText$Operator", 139), ("JobText$Operator", 141), ("JobText$Operator", 166), ("JobText$Operator", 146), ("JobText$Pair", 52), ("JobText$Pair", 64), ("JobText$Pair", 72), ("JobText$Pair", 74)]
def k_tm (i : Nat) : Term := .string (k_st.getD i ("", 0)).1 (k_st.getD i ("", 0)).2
def k_v (i : Nat) : Term := .field (k_tm i) "java/lang/String" "value" "[B"
def k_el (t : Term) (l : List Int32) : List Cond := (List.range l.length).map (fun j => Cond.eq (.elem t (.int (Int32.ofNat j))) (.int (l.getD j 0)))
def k_kc (i : Nat) : List Cond := .exactly (k_tm i) "java/lang/String" :: .eq (.field (k_tm i) "java/lang/String" "coder" "B") (.int 0) :: .arrayOf (k_v i) .byte :: .eq (.length (k_v i)) (.int (Int32.ofNat (z_sb.getD i []).length)) :: k_el (k_v i) (z_sb.getD i [])
def k_ac (t : Term) (l : List Int32) : List Cond := .arrayOf t .int :: .eq (.length t) (.int (Int32.ofNat l.length)) :: k_el t l
def k_ts (i : Nat) : Term := if i = 0 then .static RX9 "MAY_STAND" "[I" else .static RX11 "PROPERTIES" "[I"
def k_all : List Cond := .eq (.static "java/lang/String" "COMPACT_STRINGS" "Z") (.int 1) :: .isRef (.static "jdk/internal/util/Preconditions" "SIOOBE_FORMATTER" "Ljava/util/function/BiFunction;") :: (k_ac (k_ts 0) (z_ci.getD 0 []) ++ (k_ac (k_ts 1) (z_ci.getD 1 []) ++ ((List.range 24).flatMap k_kc ++ .eq (k_tm 21) (.string "JobText$Pair" 70) :: (k_kc 24 ++ k_kc 25))))
def k_sub : List Cond → List Cond → Bool
  | [], _ => true
  | _ :: _, [] => false
  | a :: as, b :: bs => if a = b then k_sub as bs else k_sub (a :: as) bs
theorem k_sub_mem : ∀ (m l : List Cond), k_sub l m = true → ∀ x ∈ l, x ∈ m := by
  intro m
  induction m with
  | nil =>
    intro l h x hx
    cases l with
    | nil => cases hx
    | cons a as => exact absurd h (by simp [k_sub])
  | cons b bs ih =>
    intro l h x hx
    cases l with
    | nil => cases hx
    | cons a as =>
      simp only [k_sub] at h
      by_cases e : a = b
      · rw [if_pos e] at h
        cases hx with
        | head => rw [e]; exact List.mem_cons_self
        | tail _ hx => exact List.mem_cons_of_mem _ (ih as h x hx)
      · rw [if_neg e] at h
        exact List.mem_cons_of_mem _ (ih (a :: as) h x hx)
theorem k_all_in : k_sub k_all (flatC (Jvm.Cond.and given_1 narrow_1)) = true := by decide +kernel
theorem k_rows {α : Type} {l : List (List α)} {P : Nat → α → Bool} (h : (List.range l.length).all (fun o => (l.getD o []).all (P o)) = true) {o : Nat} {r : α} (hr : r ∈ l.getD o []) : P o r = true := by
  by_cases ho : o < l.length
  · exact List.all_eq_true.mp (List.all_eq_true.mp h o (List.mem_range.mpr ho)) r hr
  · have e : l.getD o [] = [] := by simp [List.getD, List.getElem?_eq_none (Nat.le_of_not_lt ho)]
    rw [e] at hr
    cases hr
theorem k_mlsB : (List.range z_mls.length).all (fun o => (z_mls.getD o []).all (fun r => r.2.2.1 != 2 || decide (lw_tbl[r.2.2.2]? = some (.methodLinkNest (z_cn o) r.1 (z_m r.2.1).1 RX11)))) = true := by decide +kernel
theorem k_slsB : (List.range z_sls.length).all (fun o => (z_sls.getD o []).all (fun r => decide (Cond.stringRef (z_cn o) r.1 r.2.2 ∈ lw_tbl) && decide (r.2.1 < 26) && (decide ((z_cn o, r.1) = k_st.getD r.2.1 ("", 0)) || decide (o = 8 ∧ r.1 = 70 ∧ r.2.1 = 21)))) = true := by decide +kernel
theorem k_sb_nd : (List.range 26).all (fun i => (List.range 26).all (fun j => decide (z_sb.getD i [] = z_sb.getD j [] → i = j))) = true := by decide +kernel
theorem k_sb_ln : (List.range 26).all (fun i => decide ((z_sb.getD i []).length < 2 ^ 31)) = true := by decide +kernel
theorem k_el_mem {t : Term} {l : List Int32} {j : Nat} (hj : j < l.length) : Cond.eq (.elem t (.int (Int32.ofNat j))) (.int (l.getD j 0)) ∈ k_el t l := List.mem_map.mpr ⟨j, List.mem_range.mpr hj, rfl⟩
theorem k_kc_in {i : Nat} (hi : i < 26) {w : Cond} (h : w ∈ k_kc i) : w ∈ k_all := by
  unfold k_all
  refine List.mem_cons_of_mem _ (List.mem_cons_of_mem _ (List.mem_append_right _ (List.mem_append_right _ ?_)))
  by_cases h24 : i < 24
  · exact List.mem_append_left _ (List.mem_flatMap.mpr ⟨i, List.mem_range.mpr h24, h⟩)
  · refine List.mem_append_right _ (List.mem_cons_of_mem _ ?_)
    rcases (show i = 24 ∨ i = 25 by omega) with e | e <;> subst e
    · exact List.mem_append_left _ h
    · exact List.mem_append_right _ h
theorem k_T_eq {t N M : Nat} {f g : Nat → Value} {A : Nat → Prop} {U : State} {H : Heap} {ty : FieldType} (a : va_T ty t N f A U H) (b : va_T ty t M g A U H) (hN : N < 2 ^ 31) (hM : M < 2 ^ 31) : N = M ∧ ∀ j, j < N → f j = g j := by
  obtain ⟨c1, h1, -, -, -, l1, e1, -⟩ := a
  obtain ⟨c2, h2, -, -, -, l2, e2, -⟩ := b
  have hc : c1 = c2 := Option.some.inj (h1.symm.trans h2)
  subst hc
  have hNM : N = M := (nI_eq hN hM).mp (l1.symm.trans l2)
  subst hNM
  exact ⟨rfl, fun j hj => Option.some.inj ((e1 j hj).symm.trans (e2 j hj))⟩
theorem k_OF_eq {o n d : String} {v w : Value} {t : Nat} {A : Nat → Prop} {U : State} {H : Heap} (a : va_OF o n d v t A U H) (b : va_OF o n d w t A U H) : v = w := by
  obtain ⟨cf, k, i, f, c1, f1, -, h1, -, s1, -⟩ := a
  obtain ⟨cf2, k2, i2, f2, c2, f3, -, h2, -, s2, -⟩ := b
  have hc : c1 = c2 := Option.some.inj (h1.symm.trans h2)
  subst hc
  have hf := Option.some.inj (f1.symm.trans f3)
  cases hf
  exact Option.some.inj (s1.symm.trans s2)
