/-! ===== the fresh world in plain numbers ===== -/
def h_neg (kd k : Nat) : Bool := (Nat.beq kd 11 && (Nat.beq k 1 || Nat.beq k 2)) || (Nat.beq kd 22 && (Nat.beq k 13 || Nat.beq k 14))
def h_r (q : zR) (k : Nat) : Option zR := match q.1 with
  | 32 => (match k with
    | 0 => some (14, 0, 0)
    | 1 => some (14, 1, 0)
    | _ => none)
  | 21 => (match k with
    | 4 => some (14, 2, 0)
    | _ => none)
  | 20 => (match k with
    | 3 => some (14, 2, 0)
    | _ => none)
  | 19 => (match k with
    | 2 => some (14, 2, 0)
    | 7 => some (17, 3, 0)
    | 8 => some (18, 6, 0)
    | _ => none)
  | _ => none
/-- the heap of a fresh pair of objects -/
def h_0 : zH := (fun q k => if h_neg q.1 k = true then -(nI 5) else nI 0, fun q k => if q.1 = 51 then w_keys k else lN (if q.1 = 12 ∧ k = 1 then 1 else 0), h_r)
def z_dv (q : zR) (k : Nat) : dV := match z_tc q.1 k with
  | 0 => if h_neg q.1 k = true then (1, 5) else (0, 0)
  | 5 => if h_neg q.1 k = true then (1, 5) else (0, 0)
  | 1 => (2, if q.1 = 12 ∧ k = 1 then 1 else 0)
  | 2 => (4, z_off (z_fr q k))
  | _ => (match h_r q k with
    | some q' => (4, z_off q')
    | none => (3, 0))
def z_ds (q : zR) : dE := if q.1 < 23 then dO (q.1 - 10) ((List.range (z_nf (q.1 - 10))).map (z_dv q)) else match z_at q.1 with
  | 4 => dQ (z_t0 q.1) (z_ln q) (z_off (z_el q 0)) (z_off (z_el q 1) - z_off (z_el q 0)) (z_ln q)
  | 5 => dQ 5 2 20 484 2
  | 1 => if q.1 = 51 then (2, 21, 0, 1, 0, []) else dA 1 (z_ln q)
  | _ => dA (z_t0 q.1) (z_ln q)
def w_all : List dE := dO 11 (F_JobText 1) :: (T_JobText 1 ++ dO 12 (F_Model 1490) :: T_Model 1490)
def d_eqV : List dV → List dV → Bool
  | [], [] => true
  | a :: as, b :: bs => (Nat.beq a.1 b.1 && Nat.beq a.2 b.2) && d_eqV as bs
  | _, _ => false
def d_eq (a b : dE) : Bool := Nat.beq a.1 b.1 && (Nat.beq a.2.1 b.2.1 && (Nat.beq a.2.2.1 b.2.2.1 && (Nat.beq a.2.2.2.1 b.2.2.2.1 && (Nat.beq a.2.2.2.2.1 b.2.2.2.2.1 && d_eqV a.2.2.2.2.2 b.2.2.2.2.2))))
def d_eqL : List dE → List dE → Bool
  | [], [] => true
  | a :: as, b :: bs => d_eq a b && d_eqL as bs
  | _, _ => false
theorem d_eqV_ok : ∀ (a b : List dV), d_eqV a b = true → a = b
  | [], [], _ => rfl
  | [], _ :: _, h => by cases h
  | _ :: _, [], h => by cases h
  | (a1, a2) :: as, (b1, b2) :: bs, h => by
    simp only [d_eqV, Bool.and_eq_true] at h
    have e1 : a1 = b1 := Nat.eq_of_beq_eq_true h.1.1
    have e2 : a2 = b2 := Nat.eq_of_beq_eq_true h.1.2
    rw [e1, e2, d_eqV_ok as bs h.2]
theorem d_eq_ok {a b : dE} (h : d_eq a b = true) : a = b := by
  obtain ⟨a1, a2, a3, a4, a5, a6⟩ := a
  obtain ⟨b1, b2, b3, b4, b5, b6⟩ := b
  simp only [d_eq, Bool.and_eq_true] at h
  obtain ⟨h1, h2, h3, h4, h5, h6⟩ := h
  rw [Nat.eq_of_beq_eq_true h1, Nat.eq_of_beq_eq_true h2, Nat.eq_of_beq_eq_true h3, Nat.eq_of_beq_eq_true h4, Nat.eq_of_beq_eq_true h5, d_eqV_ok _ _ h6]
theorem d_eqL_ok : ∀ (a b : List dE), d_eqL a b = true → a = b
  | [], [], _ => rfl
  | [], _ :: _, h => by cases h
  | _ :: _, [], h => by cases h
  | a :: as, b :: bs, h => by
    simp only [d_eqL, Bool.and_eq_true] at h
    rw [d_eq_ok h.1, d_eqL_ok as bs h.2]
theorem w_all_eq : d_eqL w_all ((z_oc.flatten.take 1555).map z_ds) = true := by decide +kernel
theorem z_oc_len : (z_oc.all fun c => Nat.beq c.length 40) = true := by decide +kernel
theorem fl_get {α : Type} {d : α} : ∀ (L : List (List α)) (a b : Nat), (∀ c ∈ L, c.length = 40) → b < 40 → a < L.length → L.flatten[40 * a + b]? = some ((L.getD a []).getD b d)
  | [], a, b, _, _, h => by cases h
  | c :: L, 0, b, hc, hb, _ => by
    have h1 := hc c List.mem_cons_self
    rw [List.flatten_cons, List.getElem?_append_left (by omega)]
    simp [List.getD, show b < c.length by omega]
  | c :: L, a + 1, b, hc, hb, ha => by
    have h1 := hc c List.mem_cons_self
    rw [List.flatten_cons, List.getElem?_append_right (by omega), show 40 * (a + 1) + b - c.length = 40 * a + b by omega, fl_get L a b (fun c h => hc c (List.mem_cons_of_mem _ h)) hb (by simpa using ha)]
    rfl
theorem w_all_at {k : Nat} (hk : k < 1555) : w_all[k]? = some (z_ds (z_lu k)) := by
  rw [d_eqL_ok _ _ w_all_eq, List.getElem?_map, List.getElem?_take, if_pos hk]
  have hl : z_oc.length = 39 := by decide +kernel
  have h := fl_get (d := ((99, 0, 0) : zR)) z_oc (k / 40) (k % 40) (fun c hc => Nat.eq_of_beq_eq_true (List.all_eq_true.mp z_oc_len c hc)) (Nat.mod_lt _ (by decide)) (by rw [hl]; omega)
  rw [Nat.div_add_mod] at h
  rw [h]
  rfl
theorem w_all_len : w_all.length = 1555 := by
  unfold w_all
  rw [List.length_cons, List.length_append, T_JobText_len, List.length_cons, T_Model_len]
theorem z_el_all : ((List.range 182).all fun kd => !(Nat.beq (z_at kd) 4) || (List.range 10).all fun i => (List.range (z_bd kd i)).all fun j => (List.range (z_ln (kd, i, j))).all fun m => Nat.beq (z_off (z_el (kd, i, j) m)) (z_off (z_el (kd, i, j) 0) + (z_off (z_el (kd, i, j) 1) - z_off (z_el (kd, i, j) 0)) * m)) = true := by decide +kernel
