/-! ===== the small constructors in plain numbers ===== -/
theorem d0fs : ∀ j, j < 2 → defaultValue (tyX0 j) = vp_V (b_df 0) j := by decide +kernel
theorem d1fs : ∀ j, j < 4 → defaultValue (tyX1 j) = vp_V (b_df 1) j := by decide +kernel
theorem d2fs : ∀ j, j < 3 → defaultValue (tyX2 j) = vp_V (b_df 2) j := by decide +kernel
theorem d4fs : ∀ j, j < 14 → defaultValue (tyX4 j) = vp_V (b_df 4) j := by decide +kernel
theorem d5fs : ∀ j, j < 2 → defaultValue (tyX5 j) = vp_V (b_df 5) j := by decide +kernel
theorem d6fs : ∀ j, j < 15 → defaultValue (tyX6 j) = vp_V (b_df 6) j := by decide +kernel
theorem d7fs : ∀ j, j < 16 → defaultValue (tyX7 j) = vp_V (b_df 7) j := by decide +kernel
theorem d8fs : ∀ j, j < 8 → defaultValue (tyX8 j) = vp_V (b_df 8) j := by decide +kernel
theorem d9fs : ∀ j, j < 10 → defaultValue (tyX9 j) = vp_V (b_df 9) j := by decide +kernel
theorem d10fs : ∀ j, j < 13 → defaultValue (tyX10 j) = vp_V (b_df 10) j := by decide +kernel
theorem d11fs : ∀ j, j < 12 → defaultValue (tyX11 j) = vp_V (b_df 11) j := by decide +kernel
theorem d12fs : ∀ j, j < 82 → defaultValue (tyX12 j) = vp_V (b_df 12) j := by decide +kernel
theorem den_O {cx : zX} {c : Nat} {X : List dV} : den cx (dO c X) = .inr (c, X.map (dv cx)) := rfl
def T_Nil (_ : Nat) : List dE := []
theorem T_Nil_len {n : Nat} : (T_Nil n).length = 0 := rfl
def F_Pa (_ : Nat) : List dV := d_df 8
def F_Fa (_ : Nat) : List dV := ((d_df 1).set 1 (1, 5)).set 2 (1, 5)
def F_Fl (_ : Nat) : List dV := ((d_df 2).set 0 (2, 0)).set 1 (2, 1)
def T_By (M : Nat) (_ : Nat) : List dE := [dA 2 M]
theorem T_By_len {M n : Nat} : (T_By M n).length = 1 := rfl
def F_By (n : Nat) : List dV := (d_df 0).set 0 (4, n)
def T_Ju (_ : Nat) : List dE := [dA 1 40]
theorem T_Ju_len {n : Nat} : (T_Ju n).length = 1 := rfl
def F_Ju (a n : Nat) : List dV := ((d_df 5).set 0 (4, a)).set 1 (4, n)
def T_Op (n : Nat) : List dE := dQ 7 4 (n + 1) 1 4 :: (List.replicate 4 (dO 3 (d_df 3)) ++ [dA 1 3])
theorem T_Op_len {n : Nat} : (T_Op n).length = 6 := rfl
def F_Op (n : Nat) : List dV := ((d_df 7).set 8 (4, n)).set 10 (4, n + 5)
section SMALL
variable {cx : zX}
theorem d_Pair : dOk y_Pair prog_10_method_1_code 1 1 13 0 0 cx [] 8 T_Nil F_Pa := by
  intro n t f hf ht
  have e : den cx (dO 8 (F_Pa n)) = .inr (8, F_Pair cx n) := d_df_den
  rw [e]
  exact c_Pair hf ht
theorem d_Fault : dOk y_Fault prog_3_method_1_code 1 1 13 0 0 cx [] 1 T_Nil F_Fa := by
  intro n t f hf ht
  have e : den cx (dO 1 (F_Fa n)) = .inr (1, F_Fault cx n) := by
    rw [den_O, F_Fa, List.map_set, List.map_set, d_df_dv]
    rfl
  rw [e]
  exact c_Fault hf ht
theorem d_Flow : dOk y_Flow prog_4_method_1_code 1 1 13 0 0 cx [] 2 T_Nil F_Fl := by
  intro n t f hf ht
  have e : den cx (dO 2 (F_Fl n)) = .inr (2, F_Flow cx n) := by
    rw [den_O, F_Fl, List.map_set, List.map_set, d_df_dv]
    rfl
  rw [e]
  exact c_Flow hf ht
theorem d_Bytes {M : Nat} (hM : M < 65536 := by decide) : dOk y_Bytes prog_2_method_1_code 2 1 14 1 M cx [.int (nI M)] 0 (T_By M) F_By := by
  intro n t f hf ht
  have e : den cx (dO 0 (F_By n)) = .inr (0, F_Bytes cx n) := by
    rw [den_O, F_By, List.map_set, d_df_dv]
    rfl
  rw [e]
  exact c_Bytes hM hf ht
theorem d_Judge {a : Nat} : dOk y_Judge prog_7_method_1_code 2 1 13 1 40 cx [.ref (b_a cx a)] 5 T_Ju (F_Ju a) := by
  intro n t f hf ht
  have e : den cx (dO 5 (F_Ju a n)) = .inr (5, F_Judge cx n (b_a cx a)) := by
    rw [den_O, F_Ju, List.map_set, List.map_set, d_df_dv]
    rfl
  rw [e]
  exact c_Judge hf ht
theorem d_Op : dOk y_Op prog_9_method_1_code 2 2 32 6 31 cx [] 7 T_Op F_Op := by
  intro n t f hf ht
  have e : den cx (dO 7 (F_Op n)) = opF2 cx n := by
    rw [den_O, F_Op, List.map_set, List.map_set, d_df_dv]
    rfl
  have e2 : (T_Op n).map (den cx) = opT cx n 4 ++ [opL cx] := by
    rw [T_Op, List.map_cons, List.map_append, List.map_replicate, d_df_den]
    rfl
  rw [e, e2]
  exact c_Op hf ht
end SMALL
/-! ===== two rows of new objects side by side ===== -/
def q2_ds (pre : List dE) (t N s : Nat) (cel : Nat → List dE) (j1 j2 j : Nat) (zs : List dE) : List dE := pre ++ dQ t N s 2 j1 :: dQ t N (s + 1) 2 j2 :: ((List.range j).flatMap cel ++ zs)
section Q2
variable {pre zs ws : List dE} {P t N s j1 j2 j : Nat} {cel : Nat → List dE} {x y : dE}
theorem q2_app : q2_ds pre t N s cel j1 j2 j zs ++ ws = q2_ds pre t N s cel j1 j2 j (zs ++ ws) := by simp [q2_ds]
theorem q2_len (hp : pre.length = P) (hc : ∀ i, (cel i).length = 2) : (q2_ds pre t N s cel j1 j2 j zs).length = P + 2 + 2 * j + zs.length := by
  unfold q2_ds
  rw [List.length_append, List.length_cons, List.length_cons, List.length_append, q_fl_len hc, hp]
  omega
theorem q2_at0 (hp : pre.length = P) : (q2_ds pre t N s cel j1 j2 j zs)[P]? = some (dQ t N s 2 j1) := by
  subst hp
  simp [q2_ds]
theorem q2_at1 (hp : pre.length = P) : (q2_ds pre t N s cel j1 j2 j zs)[P + 1]? = some (dQ t N (s + 1) 2 j2) := by
  subst hp
  simp [q2_ds]
theorem q2_z {i : Nat} (hp : pre.length = P) (hc : ∀ i, (cel i).length = 2) : (q2_ds pre t N s cel j1 j2 j zs)[P + 2 + 2 * j + i]? = zs[i]? := by
  have e : q2_ds pre t N s cel j1 j2 j zs = q2_ds pre t N s cel j1 j2 j [] ++ zs := by rw [q2_app]; rfl
  have hl := q2_len (t := t) (N := N) (s := s) (j1 := j1) (j2 := j2) (j := j) (zs := []) hp hc
  rw [e, List.getElem?_append_right (by rw [hl]; simp), hl]
  simp
theorem q2_set0 (hp : pre.length = P) : (q2_ds pre t N s cel j1 j2 j zs).set P (dQ t N s 2 (j1 + 1)) = q2_ds pre t N s cel (j1 + 1) j2 j zs := by
  subst hp
  simp [q2_ds]
theorem q2_set1 (hp : pre.length = P) : (q2_ds pre t N s cel j1 j2 j zs).set (P + 1) (dQ t N (s + 1) 2 (j2 + 1)) = q2_ds pre t N s cel j1 (j2 + 1) j zs := by
  subst hp
  simp [q2_ds]
theorem q2_next (hz : cel j = zs) : q2_ds pre t N s cel j1 j2 j zs = q2_ds pre t N s cel j1 j2 (j + 1) [] := by
  subst hz
  unfold q2_ds
  rw [List.range_succ, List.flatMap_append]
  simp
theorem q2_0 : q2_ds pre t N s cel 0 0 0 [] = (pre ++ [dQ t N s 2 0]) ++ [dQ t N (s + 1) 2 0] := by simp [q2_ds]
end Q2
