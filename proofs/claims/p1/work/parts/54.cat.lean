/-! ===== worlds in building, in a normal form: n old cells of which t is the object's own, then a list of new ones ===== -/
def b_cat (n : Nat) (f : Nat → va_E) (as : List va_E) : Nat → va_E := fun j => if j < n then f j else as.getD (j - n) (.inr (0, []))
theorem b_cat_nil {n : Nat} {f : Nat → va_E} {j : Nat} (h : j < n) : b_cat n f [] j = f j := if_pos h
theorem b_cat_lo {n : Nat} {f : Nat → va_E} {as : List va_E} {j : Nat} (h : j < n) : b_cat n f as j = f j := if_pos h
theorem b_cat_hi {n : Nat} {f : Nat → va_E} {as : List va_E} {j : Nat} : b_cat n f as (n + j) = as.getD j (.inr (0, [])) := by
  unfold b_cat
  rw [if_neg (by omega), Nat.add_sub_cancel_left]
theorem b_upup {f : Nat → va_E} {k : Nat} {x y : va_E} : b_up (b_up f k x) k y = b_up f k y := by
  funext j
  unfold b_up
  split <;> rfl
theorem b_up_self {f : Nat → va_E} {k : Nat} {x : va_E} (h : f k = x) : b_up f k x = f := by
  funext j
  unfold b_up
  split
  · next e => rw [e, h]
  · rfl
/-- worlds that agree on what is there -/
theorem b_W.congr {cx : zX} {n : Nat} {f g : Nat → va_E} {H : Heap} (h : b_W cx n f H) (e : ∀ j, j < n → f j = g j) : b_W cx n g H := ⟨h.1, fun k hk => by rw [← e k hk]; exact h.2 k hk⟩
theorem b_W.cat0 {cx : zX} {n : Nat} {f : Nat → va_E} {H : Heap} {t : Nat} {x : va_E} (h : b_W cx n f H) (hx : f t = x) : b_W cx (n + 0) (b_up (b_cat n f []) t x) H := h.congr (fun j hj => by
  unfold b_up
  split
  · next e => rw [e, hx]
  · rw [b_cat_nil hj])
theorem b_cat_push {n t : Nat} {f : Nat → va_E} {as : List va_E} {x c : va_E} (ht : t < n) {j : Nat} : b_up (b_up (b_cat n f as) t c) (n + as.length) x j = b_up (b_cat n f (as ++ [x])) t c j ∨ n + as.length < j := by
  by_cases h : n + as.length < j
  · exact Or.inr h
  · refine Or.inl ?_
    unfold b_up
    by_cases e : j = n + as.length
    · rw [if_pos e, if_neg (by omega), e, b_cat_hi]
      simp [List.getD]
    · rw [if_neg e]
      by_cases e2 : j = t
      · rw [if_pos e2, if_pos e2]
      · rw [if_neg e2, if_neg e2]
        by_cases hj : j < n
        · rw [b_cat_lo hj, b_cat_lo hj]
        · obtain ⟨d, rfl⟩ : ∃ d, j = n + d := ⟨j - n, by omega⟩
          rw [b_cat_hi, b_cat_hi]
          have : d < as.length := by omega
          simp [List.getD, List.getElem?_append_left this]
theorem b_W.catPush {cx : zX} {n t k : Nat} {f : Nat → va_E} {as : List va_E} {x c : va_E} {H : Heap} (ht : t < n) (hk : as.length = k) (h : b_W cx (n + k + 1) (b_up (b_up (b_cat n f as) t c) (n + k) x) H) : b_W cx (n + (k + 1)) (b_up (b_cat n f (as ++ [x])) t c) H := by
  subst hk
  exact b_W.congr h (fun j hj => (b_cat_push ht).resolve_right (by omega))
theorem b_cat_set {n t i : Nat} {f : Nat → va_E} {as : List va_E} {x c : va_E} (ht : t < n) (hi : i < as.length) : b_up (b_up (b_cat n f as) t c) (n + i) x = b_up (b_cat n f (as.set i x)) t c := by
  funext j
  unfold b_up
  by_cases e : j = n + i
  · rw [if_pos e, if_neg (by omega), e, b_cat_hi]
    simp [List.getD, hi]
  · rw [if_neg e]
    by_cases e2 : j = t
    · rw [if_pos e2, if_pos e2]
    · rw [if_neg e2, if_neg e2]
      by_cases hj : j < n
      · rw [b_cat_lo hj, b_cat_lo hj]
      · obtain ⟨d, rfl⟩ : ∃ d, j = n + d := ⟨j - n, by omega⟩
        rw [b_cat_hi, b_cat_hi]
        have : i ≠ d := fun z => e (by rw [z])
        simp [List.getD, List.getElem?_set_ne this]
/-- behind a constructor's call: its object was the last cell, bs are the cells that it made -/
theorem b_cat_call {n t k : Nat} {f : Nat → va_E} {as bs : List va_E} {c c' : va_E} (ht : t < n) (hk : as.length = k + 1) : b_up (b_cat (n + (k + 1)) (b_up (b_cat n f as) t c) bs) (n + k) c' = b_up (b_cat n f (as.set k c' ++ bs)) t c := by
  funext j
  unfold b_up
  by_cases e : j = n + k
  · rw [if_pos e, if_neg (by omega), e, b_cat_hi]
    have h1 : k < (as.set k c').length := by rw [List.length_set]; omega
    simp [List.getD, List.getElem?_append_left h1, show k < as.length by omega]
  · rw [if_neg e]
    by_cases e2 : j = t
    · rw [if_pos e2, e2, b_cat_lo (by omega), if_pos rfl]
    · rw [if_neg e2]
      by_cases hj : j < n
      · rw [b_cat_lo (by omega), if_neg e2, b_cat_lo hj, b_cat_lo hj]
      · obtain ⟨d, rfl⟩ : ∃ d, j = n + d := ⟨j - n, by omega⟩
        rw [b_cat_hi]
        by_cases hd : d < k + 1
        · rw [b_cat_lo (by omega), if_neg e2, b_cat_hi]
          have h1 : d < (as.set k c').length := by rw [List.length_set]; omega
          have h2 : k ≠ d := fun z => e (by rw [z])
          simp [List.getD, List.getElem?_append_left h1, List.getElem?_set_ne h2]
        · obtain ⟨x, rfl⟩ : ∃ x, d = k + 1 + x := ⟨d - (k + 1), by omega⟩
          rw [show n + (k + 1 + x) = n + (k + 1) + x by omega, b_cat_hi]
          have h1 : (as.set k c').length ≤ k + 1 + x := by rw [List.length_set]; omega
          simp [List.getD, List.getElem?_append_right h1, hk]
def y_Input : MethodName := ⟨RX3, "<init>", "()V"⟩
def y_Pair : MethodName := ⟨RX8, "<init>", "()V"⟩
/-- calls of nest mates' constructors -/
def k_nest : List (String × Nat × MethodName) := [(RX7, 17, y_Input), (RX4, 24, y_Pair), (RX9, 37, y_Pair)]
/-- the machine while the world is being built -/
def b_E (cx : zX) (U : State) : Prop := va_K cx.1 zcl (z_tys cx) U ∧ z_C cx U ∧ (∀ C ∈ [RX0, RX4, RX7, RX3, RX8, RX2], va_AO C U) ∧ ∀ q ∈ k_nest, va_Nw (.methodLinkNest q.1 q.2.1 q.2.2 RX11) U
def b_B (cx : zX) (u : Nat × (Nat → va_E)) (t : State) : Prop := b_W cx u.1 u.2 t.heap ∧ b_E cx t
abbrev b_rm (fr lo mc ms : Nat) : Room := { frames := fr, cells := mc, slots := ms, locals := lo }
/-- a constructor's contract: from the world (n, f) it comes to the world u -/
def bOk (y : MethodName) (cd : ByteArray) (mL fr lo mc ms : Nat) (cx : zX) (as : List Value) (n : Nat) (f : Nat → va_E) (u : Nat × (Nat → va_E)) : Prop := ∀ l : Launch, Met l y (Cond.code y cd mL none :: zTG) (b_rm fr lo mc ms) (va_Pc as (b_B cx (n, f))) (va_Qv (fun v => v = u) (b_B cx) (z_A cx)) mc ms (z_A cx)
