/-! ===== the constants at the start ===== -/
/-- where each literal stands first -/
def k_st : List (String × Nat) := [("JobText$Words", 30), ("JobText$Words", 89), ("JobText$Operator", 96), ("JobText$Operator", 98), ("JobText$Operator", 110), ("JobText$Operator", 148), ("JobText$Operator", 150), ("JobText$Operator", 152), ("JobText$Operator", 154), ("JobText$Operator", 156), ("JobText$Operator", 158), ("JobText$Operator", 160), ("JobText$Operator", 162), ("JobText$Operator", 116), ("JobText$Operator", 164), ("JobText$Operator", 122), ("JobText$Operator", 128), ("JobText$Operator", 130), ("JobText$Operator", 139), ("JobText$Operator", 141), ("JobText$Operator", 166), ("JobText$Operator", 146), ("JobText$Pair", 52), ("JobText$Pair", 64), ("JobText$Pair", 72), ("JobText$Pair", 74)]
def k_tm (i : Nat) : Term := .string (k_st.getD i ("", 0)).1 (k_st.getD i ("", 0)).2
def k_v (i : Nat) : Term := .field (k_tm i) "java/lang/String" "value" "[B"
def k_el (t : Term) (l : List Int32) : List Cond := (List.range l.length).map (fun j => Cond.eq (.elem t (.int (Int32.ofNat j))) (.int (l.getD j 0)))
def k_kc (i : Nat) : List Cond := .exactly (k_tm i) "java/lang/String" :: .eq (.field (k_tm i) "java/lang/String" "coder" "B") (.int 0) :: .arrayOf (k_v i) .byte :: .eq (.length (k_v i)) (.int (Int32.ofNat (z_sb.getD i []).length)) :: k_el (k_v i) (z_sb.getD i [])
def k_ac (t : Term) (l : List Int32) : List Cond := .arrayOf t .int :: .eq (.length t) (.int (Int32.ofNat l.length)) :: k_el t l
def k_ts (i : Nat) : Term := if i = 0 then .static RX9 "MAY_STAND" "[I" else .static RX11 "PROPERTIES" "[I"
def k_all : List Cond := .eq (.static "java/lang/String" "COMPACT_STRINGS" "Z") (.int 1) :: .isRef (.static "jdk/internal/util/Preconditions" "SIOOBE_FORMATTER" "Ljava/util/function/BiFunction;") :: (k_ac (k_ts 0) (z_ci.getD 0 []) ++ (k_ac (k_ts 1) (z_ci.getD 1 []) ++ ((List.range 24).flatMap k_kc ++ .eq (k_tm 21) (.string "JobText$Pair" 70) :: (k_kc 24 ++ k_kc 25))))
def k_sub : List Cond → List Cond → Bool
  | [], _ => true
  | _ :: _, [] => false
  | a :: as, b :: bs => if a = b then k_sub as bs else k_sub (a :: as) bs
theorem k_sub_mem : ∀ (m l : List Cond), k_sub l m = true → ∀ x ∈ l, x ∈ m := by
  intro m
  induction m with
  | nil =>
    intro l h x hx
    cases l with
    | nil => cases hx
    | cons a as => exact absurd h (by simp [k_sub])
  | cons b bs ih =>
    intro l h x hx
    cases l with
    | nil => cases hx
    | cons a as =>
      simp only [k_sub] at h
      by_cases e : a = b
      · rw [if_pos e] at h
        cases hx with
        | head => rw [e]; exact List.mem_cons_self
        | tail _ hx => exact List.mem_cons_of_mem _ (ih as h x hx)
      · rw [if_neg e] at h
        exact List.mem_cons_of_mem _ (ih (a :: as) h x hx)
theorem k_all_in : k_sub k_all (flatC (Jvm.Cond.and given_1 narrow_1)) = true := by decide +kernel
