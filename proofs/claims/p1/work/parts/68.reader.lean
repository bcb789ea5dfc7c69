/-! ===== constructors: Reader (printed by wip/p1/gen/p64.py) ===== -/
def y_Reader : MethodName := ⟨RX9, "<init>", "([LJobText$Bytes;LJobText$Fault;LJobText$Job;)V"⟩
def D_Reader_0 (n : Nat) (a1 : Nat) (a2 : Nat) (a3 : Nat) : List dE := []
theorem D_Reader_0_len {n : Nat} {a1 : Nat} {a2 : Nat} {a3 : Nat} : (D_Reader_0 n a1 a2 a3).length = 0 := rfl
def X_Reader_0 (n : Nat) (a1 : Nat) (a2 : Nat) (a3 : Nat) : List dV := d_df 9
theorem X_Reader_0_len {n : Nat} {a1 : Nat} {a2 : Nat} {a3 : Nat} : (X_Reader_0 n a1 a2 a3).length = 10 := by
  show (d_df 9).length = 10
  decide +kernel
def D_Reader_1 (n : Nat) (a1 : Nat) (a2 : Nat) (a3 : Nat) : List dE := D_Reader_0 n a1 a2 a3 ++ dO 10 (F_Words (a1) (a2) (a3) (n + (0 + 1))) :: T_Words (a1) (a2) (a3) (n + (0 + 1))
theorem D_Reader_1_len {n : Nat} {a1 : Nat} {a2 : Nat} {a3 : Nat} : (D_Reader_1 n a1 a2 a3).length = 4 := by rw [D_Reader_1, List.length_append, D_Reader_0_len, List.length_cons, T_Words_len]
def X_Reader_1 (n : Nat) (a1 : Nat) (a2 : Nat) (a3 : Nat) : List dV := (X_Reader_0 n a1 a2 a3).set 0 (4, n + 0)
theorem X_Reader_1_len {n : Nat} {a1 : Nat} {a2 : Nat} {a3 : Nat} : (X_Reader_1 n a1 a2 a3).length = 10 := by rw [X_Reader_1, List.length_set, X_Reader_0_len]
def X_Reader_2 (n : Nat) (a1 : Nat) (a2 : Nat) (a3 : Nat) : List dV := (X_Reader_1 n a1 a2 a3).set 1 (4, a2)
theorem X_Reader_2_len {n : Nat} {a1 : Nat} {a2 : Nat} {a3 : Nat} : (X_Reader_2 n a1 a2 a3).length = 10 := by rw [X_Reader_2, List.length_set, X_Reader_1_len]
def X_Reader_3 (n : Nat) (a1 : Nat) (a2 : Nat) (a3 : Nat) : List dV := (X_Reader_2 n a1 a2 a3).set 2 (4, a3)
theorem X_Reader_3_len {n : Nat} {a1 : Nat} {a2 : Nat} {a3 : Nat} : (X_Reader_3 n a1 a2 a3).length = 10 := by rw [X_Reader_3, List.length_set, X_Reader_2_len]
def D_Reader_2 (n : Nat) (a1 : Nat) (a2 : Nat) (a3 : Nat) : List dE := D_Reader_1 n a1 a2 a3 ++ dO 7 (F_Op (n + (4 + 1))) :: T_Op (n + (4 + 1))
theorem D_Reader_2_len {n : Nat} {a1 : Nat} {a2 : Nat} {a3 : Nat} : (D_Reader_2 n a1 a2 a3).length = 11 := by rw [D_Reader_2, List.length_append, D_Reader_1_len, List.length_cons, T_Op_len]
def X_Reader_4 (n : Nat) (a1 : Nat) (a2 : Nat) (a3 : Nat) : List dV := (X_Reader_3 n a1 a2 a3).set 7 (4, n + 4)
theorem X_Reader_4_len {n : Nat} {a1 : Nat} {a2 : Nat} {a3 : Nat} : (X_Reader_4 n a1 a2 a3).length = 10 := by rw [X_Reader_4, List.length_set, X_Reader_3_len]
def D_Reader_3 (n : Nat) (a1 : Nat) (a2 : Nat) (a3 : Nat) : List dE := D_Reader_2 n a1 a2 a3 ++ dO 8 (F_Pa (n + (11 + 1))) :: T_Nil (n + (11 + 1))
theorem D_Reader_3_len {n : Nat} {a1 : Nat} {a2 : Nat} {a3 : Nat} : (D_Reader_3 n a1 a2 a3).length = 12 := by rw [D_Reader_3, List.length_append, D_Reader_2_len, List.length_cons, T_Nil_len]
def X_Reader_5 (n : Nat) (a1 : Nat) (a2 : Nat) (a3 : Nat) : List dV := (X_Reader_4 n a1 a2 a3).set 8 (4, n + 11)
theorem X_Reader_5_len {n : Nat} {a1 : Nat} {a2 : Nat} {a3 : Nat} : (X_Reader_5 n a1 a2 a3).length = 10 := by rw [X_Reader_5, List.length_set, X_Reader_4_len]
def T_Reader (a1 : Nat) (a2 : Nat) (a3 : Nat) (n : Nat) : List dE := D_Reader_3 n a1 a2 a3
theorem T_Reader_len {a1 : Nat} {a2 : Nat} {a3 : Nat} {n : Nat} : (T_Reader a1 a2 a3 n).length = 12 := D_Reader_3_len
def F_Reader (a1 : Nat) (a2 : Nat) (a3 : Nat) (n : Nat) : List dV := X_Reader_5 n a1 a2 a3
theorem d_Reader {cx : zX} {a1 : Nat} {a2 : Nat} {a3 : Nat} : dOk y_Reader prog_11_method_1_code 4 6 131 12 101 cx [.ref (b_a cx a1), .ref (b_a cx a2), .ref (b_a cx a3)] 9 (T_Reader a1 a2 a3) (F_Reader a1 a2 a3) := by
  intro n t f hf ht
  refine b_enter rfl (by decide) (Nat.le_of_ble_eq_true rfl) (fun p l e s m below meth c ls I hB hl hS => ?_)
  have hl : lv_has ls 4 [(0, .ref (b_a cx t)), (1, .ref (b_a cx a1)), (2, .ref (b_a cx a2)), (3, .ref (b_a cx a3))] := hl
  have hx := I.1
  have hb := I.2.1
  have hB : x_W cx n t f (D_Reader_0 n a1 a2 a3) 9 (X_Reader_0 n a1 a2 a3) s.heap := x_W0 hB hf
  refine lv_aload_n hx hb (show decode prog_11_method_1_code 0 = .ok (.aload_n 0, 1) by decide +kernel) rfl (lv_at hl 0 rfl) ?_
  refine b_obj I (idx := 3) (zw (by decide +kernel) rfl) hl.1 (show decode prog_11_method_1_code 1 = .ok (.invokespecial 3, 3) by decide +kernel) (Nat.le_of_ble_eq_true rfl) (Nat.le_of_ble_eq_true rfl) ?_
  refine lv_aload_n hx hb (show decode prog_11_method_1_code 4 = .ok (.aload_n 0, 1) by decide +kernel) rfl (lv_at hl 0 rfl) ?_
  refine x_new I hS hB ht D_Reader_0_len 10 rfl (index := 9) (ty := tyX10) (zw (by decide +kernel) rfl) (zw (by decide +kernel) rfl) (zw (by decide +kernel) rfl) tyX10_ok d10fs (Nat.le_of_ble_eq_true rfl) (Nat.le_of_ble_eq_true rfl) (show decode prog_11_method_1_code 5 = .ok (.new 9, 3) by decide +kernel) (fun H hB hS => ?_)
  refine lv_dup hx hb (show decode prog_11_method_1_code 8 = .ok (.dup, 1) by decide +kernel) rfl ?_
  refine lv_aload_n hx hb (show decode prog_11_method_1_code 9 = .ok (.aload_n 1, 1) by decide +kernel) rfl (lv_at hl 1 rfl) ?_
  refine lv_aload_n hx hb (show decode prog_11_method_1_code 10 = .ok (.aload_n 2, 1) by decide +kernel) rfl (lv_at hl 2 rfl) ?_
  refine lv_aload_n hx hb (show decode prog_11_method_1_code 11 = .ok (.aload_n 3, 1) by decide +kernel) rfl (lv_at hl 3 rfl) ?_
  refine x_call (As := [.ref (b_a cx (a1)), .ref (b_a cx (a2)), .ref (b_a cx (a3))]) (rest := [.ref (b_a cx (n + 0)), .ref (b_a cx t)]) I (d_Words) hS hB ht D_Reader_0_len (zw (by decide +kernel) rfl) (zw (by decide +kernel) rfl) (zw (by decide +kernel) rfl) (zw (by decide +kernel) rfl) rfl ⟨by decide, by decide, (show (parseMethodDescriptor y_Words.desc).map (fun d => d.parameters.length) = some 3 by decide +kernel)⟩ ⟨(Nat.le_of_ble_eq_true rfl), (Nat.le_of_ble_eq_true rfl)⟩ hl.1 (Nat.le_of_ble_eq_true rfl) (show decode prog_11_method_1_code 12 = .ok (.invokespecial 11, 3) by decide +kernel) ⟨(Nat.le_of_ble_eq_true rfl), (Nat.le_of_ble_eq_true rfl)⟩ (fun H locs hB hS => ?_)
  have hB : x_W cx n t f (D_Reader_1 n a1 a2 a3) 9 (X_Reader_0 n a1 a2 a3) H := hB
  refine x_put I hS hB ht rfl 0 (by decide) (index := 14) (zw (by decide +kernel) rfl) rfl (ty := .object "JobText$Words") (4, n + 0) rfl (by decide +kernel) rfl rfl (by rw [X_Reader_0_len]; decide) (show decode prog_11_method_1_code 15 = .ok (.putfield 14, 3) by decide +kernel) (fun H locs hB hS => ?_)
  have hB : x_W cx n t f (D_Reader_1 n a1 a2 a3) 9 (X_Reader_1 n a1 a2 a3) H := hB
  refine lv_aload_n hx hb (show decode prog_11_method_1_code 18 = .ok (.aload_n 0, 1) by decide +kernel) rfl (lv_at hl 0 rfl) ?_
  refine lv_aload_n hx hb (show decode prog_11_method_1_code 19 = .ok (.aload_n 2, 1) by decide +kernel) rfl (lv_at hl 2 rfl) ?_
  refine x_put I hS hB ht rfl 1 (by decide) (index := 20) (zw (by decide +kernel) rfl) rfl (ty := .object "JobText$Fault") (4, a2) rfl (by decide +kernel) rfl rfl (by rw [X_Reader_1_len]; decide) (show decode prog_11_method_1_code 20 = .ok (.putfield 20, 3) by decide +kernel) (fun H locs hB hS => ?_)
  have hB : x_W cx n t f (D_Reader_1 n a1 a2 a3) 9 (X_Reader_2 n a1 a2 a3) H := hB
  refine lv_aload_n hx hb (show decode prog_11_method_1_code 23 = .ok (.aload_n 0, 1) by decide +kernel) rfl (lv_at hl 0 rfl) ?_
  refine lv_aload_n hx hb (show decode prog_11_method_1_code 24 = .ok (.aload_n 3, 1) by decide +kernel) rfl (lv_at hl 3 rfl) ?_
  refine x_put I hS hB ht rfl 2 (by decide) (index := 24) (zw (by decide +kernel) rfl) rfl (ty := .object "JobText$Job") (4, a3) rfl (by decide +kernel) rfl rfl (by rw [X_Reader_2_len]; decide) (show decode prog_11_method_1_code 25 = .ok (.putfield 24, 3) by decide +kernel) (fun H locs hB hS => ?_)
  have hB : x_W cx n t f (D_Reader_1 n a1 a2 a3) 9 (X_Reader_3 n a1 a2 a3) H := hB
  refine lv_aload_n hx hb (show decode prog_11_method_1_code 28 = .ok (.aload_n 0, 1) by decide +kernel) rfl (lv_at hl 0 rfl) ?_
  refine x_new I hS hB ht D_Reader_1_len 7 rfl (index := 28) (ty := tyX7) (zw (by decide +kernel) rfl) (zw (by decide +kernel) rfl) (zw (by decide +kernel) rfl) tyX7_ok d7fs (Nat.le_of_ble_eq_true rfl) (Nat.le_of_ble_eq_true rfl) (show decode prog_11_method_1_code 29 = .ok (.new 28, 3) by decide +kernel) (fun H hB hS => ?_)
  refine lv_dup hx hb (show decode prog_11_method_1_code 32 = .ok (.dup, 1) by decide +kernel) rfl ?_
  refine x_call (As := []) (rest := [.ref (b_a cx (n + 4)), .ref (b_a cx t)]) I (d_Op) hS hB ht D_Reader_1_len (zw (by decide +kernel) rfl) (zw (by decide +kernel) rfl) (zw (by decide +kernel) rfl) (zw (by decide +kernel) rfl) rfl ⟨by decide, by decide, (show (parseMethodDescriptor y_Op.desc).map (fun d => d.parameters.length) = some 0 by decide +kernel)⟩ ⟨(Nat.le_of_ble_eq_true rfl), (Nat.le_of_ble_eq_true rfl)⟩ hl.1 (Nat.le_of_ble_eq_true rfl) (show decode prog_11_method_1_code 33 = .ok (.invokespecial 30, 3) by decide +kernel) ⟨(Nat.le_of_ble_eq_true rfl), (Nat.le_of_ble_eq_true rfl)⟩ (fun H locs hB hS => ?_)
  have hB : x_W cx n t f (D_Reader_2 n a1 a2 a3) 9 (X_Reader_3 n a1 a2 a3) H := hB
  refine x_put I hS hB ht rfl 7 (by decide) (index := 31) (zw (by decide +kernel) rfl) rfl (ty := .object "JobText$Operator") (4, n + 4) rfl (by decide +kernel) rfl rfl (by rw [X_Reader_3_len]; decide) (show decode prog_11_method_1_code 36 = .ok (.putfield 31, 3) by decide +kernel) (fun H locs hB hS => ?_)
  have hB : x_W cx n t f (D_Reader_2 n a1 a2 a3) 9 (X_Reader_4 n a1 a2 a3) H := hB
  refine lv_aload_n hx hb (show decode prog_11_method_1_code 39 = .ok (.aload_n 0, 1) by decide +kernel) rfl (lv_at hl 0 rfl) ?_
  refine x_new I hS hB ht D_Reader_2_len 8 rfl (index := 35) (ty := tyX8) (zw (by decide +kernel) rfl) (zw (by decide +kernel) rfl) (zw (by decide +kernel) rfl) tyX8_ok d8fs (Nat.le_of_ble_eq_true rfl) (Nat.le_of_ble_eq_true rfl) (show decode prog_11_method_1_code 40 = .ok (.new 35, 3) by decide +kernel) (fun H hB hS => ?_)
  refine lv_dup hx hb (show decode prog_11_method_1_code 43 = .ok (.dup, 1) by decide +kernel) rfl ?_
  refine x_callN (As := []) (rest := [.ref (b_a cx (n + 11)), .ref (b_a cx t)]) I (d_Pair) hS hB ht D_Reader_2_len (I.2.2.2.2.2.2.2.2.2.2.2 _ (by decide +kernel : (RX9, 37, y_Pair) ∈ k_nest)) (zw (by decide +kernel) rfl) (zw (by decide +kernel) rfl) (zw (by decide +kernel) rfl) rfl ⟨by decide, by decide, (show (parseMethodDescriptor y_Pair.desc).map (fun d => d.parameters.length) = some 0 by decide +kernel)⟩ ⟨(Nat.le_of_ble_eq_true rfl), (Nat.le_of_ble_eq_true rfl)⟩ hl.1 (Nat.le_of_ble_eq_true rfl) (show decode prog_11_method_1_code 44 = .ok (.invokespecial 37, 3) by decide +kernel) ⟨(Nat.le_of_ble_eq_true rfl), (Nat.le_of_ble_eq_true rfl)⟩ (fun H locs hB hS => ?_)
  have hB : x_W cx n t f (D_Reader_3 n a1 a2 a3) 9 (X_Reader_4 n a1 a2 a3) H := hB
  refine x_put I hS hB ht rfl 8 (by decide) (index := 38) (zw (by decide +kernel) rfl) rfl (ty := .object "JobText$Pair") (4, n + 11) rfl (by decide +kernel) rfl rfl (by rw [X_Reader_4_len]; decide) (show decode prog_11_method_1_code 47 = .ok (.putfield 38, 3) by decide +kernel) (fun H locs hB hS => ?_)
  have hB : x_W cx n t f (D_Reader_3 n a1 a2 a3) 9 (X_Reader_5 n a1 a2 a3) H := hB
  exact x_ret I (T := T_Reader a1 a2 a3) (F := F_Reader a1 a2 a3) hB rfl rfl hS (Nat.le_of_ble_eq_true rfl) (Nat.le_of_ble_eq_true rfl) (show decode prog_11_method_1_code 50 = .ok (.return_, 1) by decide +kernel)
