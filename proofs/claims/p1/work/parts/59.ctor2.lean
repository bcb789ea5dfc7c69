/-! ===== constructors without a loop (printed by wip/whole/gen/p59.py) ===== -/
-- Pair
def T_Pair (cx : zX) : List va_E := []
def F_Pair (_ : zX) (_ : Nat) : List Value := b_df 8
theorem c_Pair {cx : zX} {n t : Nat} {f : Nat → va_E} (hf : f t = .inr (8, b_df 8)) (ht : t < n) : bOk y_Pair prog_10_method_1_code 1 1 13 0 0 cx [.ref (b_a cx t)] n f (n + 0, b_up (b_cat n f (T_Pair cx)) t (.inr (8, F_Pair cx n))) := by
  refine b_enter rfl (by decide) (Nat.le_of_ble_eq_true rfl) (fun p l e s m below meth c ls I hB hl hS => ?_)
  have hl : lv_has ls 1 [(0, .ref (b_a cx t))] := hl
  have hx := I.1
  have hb := I.2.1
  have hB := hB.cat0 hf
  have hfl : (b_df 8).length = 8 := by decide +kernel
  generalize hfs0 : b_df 8 = fs0 at hB hfl
  refine lv_aload_n hx hb (show decode prog_10_method_1_code 0 = .ok (.aload_n 0, 1) by decide +kernel) rfl (lv_at hl 0 rfl) ?_
  refine b_obj I (idx := 3) (zw (by decide +kernel) rfl) hl.1 (show decode prog_10_method_1_code 1 = .ok (.invokespecial 3, 3) by decide +kernel) (by decide) (by decide) ?_
  subst hfs0
  exact b_ret I (u := (_, _)) hB hS (by decide) (by decide) (show decode prog_10_method_1_code 4 = .ok (.return_, 1) by decide +kernel)
def y_Fault : MethodName := ⟨RX1, "<init>", "()V"⟩
def T_Fault (cx : zX) : List va_E := []
def F_Fault (cx : zX) (n : Nat) : List Value := [(1, .int (-5)), (2, .int (-5))].foldl (fun l q => l.set q.1 q.2) (b_df 1)
theorem c_Fault {cx : zX} {n t : Nat} {f : Nat → va_E} (hf : f t = .inr (1, b_df 1)) (ht : t < n) : bOk y_Fault prog_3_method_1_code 1 1 13 0 0 cx [.ref (b_a cx t)] n f (n + 0, b_up (b_cat n f (T_Fault cx)) t (.inr (1, F_Fault cx n))) := by
  refine b_enter rfl (by decide) (Nat.le_of_ble_eq_true rfl) (fun p l e s m below meth c ls I hB hl hS => ?_)
  have hl : lv_has ls 1 [(0, .ref (b_a cx t))] := hl
  have hx := I.1
  have hb := I.2.1
  have hB := hB.cat0 hf
  have hfl : (b_df 1).length = 4 := by decide +kernel
  generalize hfs0 : b_df 1 = fs0 at hB hfl
  refine lv_aload_n hx hb (show decode prog_3_method_1_code 0 = .ok (.aload_n 0, 1) by decide +kernel) rfl (lv_at hl 0 rfl) ?_
  refine b_obj I (idx := 3) (zw (by decide +kernel) rfl) hl.1 (show decode prog_3_method_1_code 1 = .ok (.invokespecial 3, 3) by decide +kernel) (by decide) (by decide) ?_
  refine lv_aload_n hx hb (show decode prog_3_method_1_code 4 = .ok (.aload_n 0, 1) by decide +kernel) rfl (lv_at hl 0 rfl) ?_
  refine lv_bipush hx hb (show decode prog_3_method_1_code 5 = .ok (.bipush (-5), 2) by decide +kernel) rfl ?_
  refine n_put I hS hB (by omega) (ci := 1) rfl 1 (by decide) (index := 9) (zw (by decide +kernel) rfl) rfl (ty := .int) (by decide +kernel) rfl rfl (by rw [hfl]; decide) (show decode prog_3_method_1_code 7 = .ok (.putfield 9, 3) by decide +kernel) (fs' := fs0.set 1 (.int (-5))) rfl (fun H locs hB hS => ?_)
  replace hfl : (fs0.set 1 (.int (-5))).length = 4 := (List.length_set ..).trans hfl
  generalize hfs1 : fs0.set 1 (.int (-5)) = fs1 at hB hfl
  refine lv_aload_n hx hb (show decode prog_3_method_1_code 10 = .ok (.aload_n 0, 1) by decide +kernel) rfl (lv_at hl 0 rfl) ?_
  refine lv_bipush hx hb (show decode prog_3_method_1_code 11 = .ok (.bipush (-5), 2) by decide +kernel) rfl ?_
  refine n_put I hS hB (by omega) (ci := 1) rfl 2 (by decide) (index := 15) (zw (by decide +kernel) rfl) rfl (ty := .int) (by decide +kernel) rfl rfl (by rw [hfl]; decide) (show decode prog_3_method_1_code 13 = .ok (.putfield 15, 3) by decide +kernel) (fs' := fs1.set 2 (.int (-5))) rfl (fun H locs hB hS => ?_)
  replace hfl : (fs1.set 2 (.int (-5))).length = 4 := (List.length_set ..).trans hfl
  generalize hfs2 : fs1.set 2 (.int (-5)) = fs2 at hB hfl
  subst hfs2 hfs1 hfs0
  exact b_ret I (u := (_, _)) hB hS (by decide) (by decide) (show decode prog_3_method_1_code 16 = .ok (.return_, 1) by decide +kernel)
def y_Flow : MethodName := ⟨RX2, "<init>", "()V"⟩
def T_Flow (cx : zX) : List va_E := []
def F_Flow (cx : zX) (n : Nat) : List Value := [(0, .long 0), (1, .long 1)].foldl (fun l q => l.set q.1 q.2) (b_df 2)
theorem c_Flow {cx : zX} {n t : Nat} {f : Nat → va_E} (hf : f t = .inr (2, b_df 2)) (ht : t < n) : bOk y_Flow prog_4_method_1_code 1 1 13 0 0 cx [.ref (b_a cx t)] n f (n + 0, b_up (b_cat n f (T_Flow cx)) t (.inr (2, F_Flow cx n))) := by
  refine b_enter rfl (by decide) (Nat.le_of_ble_eq_true rfl) (fun p l e s m below meth c ls I hB hl hS => ?_)
  have hl : lv_has ls 1 [(0, .ref (b_a cx t))] := hl
  have hx := I.1
  have hb := I.2.1
  have hB := hB.cat0 hf
  have hfl : (b_df 2).length = 3 := by decide +kernel
  generalize hfs0 : b_df 2 = fs0 at hB hfl
  refine lv_aload_n hx hb (show decode prog_4_method_1_code 0 = .ok (.aload_n 0, 1) by decide +kernel) rfl (lv_at hl 0 rfl) ?_
  refine b_obj I (idx := 1) (zw (by decide +kernel) rfl) hl.1 (show decode prog_4_method_1_code 1 = .ok (.invokespecial 1, 3) by decide +kernel) (by decide) (by decide) ?_
  refine lv_aload_n hx hb (show decode prog_4_method_1_code 4 = .ok (.aload_n 0, 1) by decide +kernel) rfl (lv_at hl 0 rfl) ?_
  refine lv_lconst hx hb (show decode prog_4_method_1_code 5 = .ok (.lconst 0, 1) by decide +kernel) rfl ?_
  refine n_put I hS hB (by omega) (ci := 2) rfl 0 (by decide) (index := 7) (zw (by decide +kernel) rfl) rfl (ty := .long) (by decide +kernel) rfl rfl (by rw [hfl]; decide) (show decode prog_4_method_1_code 6 = .ok (.putfield 7, 3) by decide +kernel) (fs' := fs0.set 0 (.long 0)) rfl (fun H locs hB hS => ?_)
  replace hfl : (fs0.set 0 (.long 0)).length = 3 := (List.length_set ..).trans hfl
  generalize hfs1 : fs0.set 0 (.long 0) = fs1 at hB hfl
  refine lv_aload_n hx hb (show decode prog_4_method_1_code 9 = .ok (.aload_n 0, 1) by decide +kernel) rfl (lv_at hl 0 rfl) ?_
  refine lv_lconst hx hb (show decode prog_4_method_1_code 10 = .ok (.lconst 1, 1) by decide +kernel) rfl ?_
  refine n_put I hS hB (by omega) (ci := 2) rfl 1 (by decide) (index := 13) (zw (by decide +kernel) rfl) rfl (ty := .long) (by decide +kernel) rfl rfl (by rw [hfl]; decide) (show decode prog_4_method_1_code 11 = .ok (.putfield 13, 3) by decide +kernel) (fs' := fs1.set 1 (.long 1)) rfl (fun H locs hB hS => ?_)
  replace hfl : (fs1.set 1 (.long 1)).length = 3 := (List.length_set ..).trans hfl
  generalize hfs2 : fs1.set 1 (.long 1) = fs2 at hB hfl
  subst hfs2 hfs1 hfs0
  exact b_ret I (u := (_, _)) hB hS (by decide) (by decide) (show decode prog_4_method_1_code 14 = .ok (.return_, 1) by decide +kernel)
def y_Judge : MethodName := ⟨RX5, "<init>", "(LJobText$Fault;)V"⟩
def T_Judge (cx : zX) : List va_E := [.inl (cx.2.2.1 1, (40, .inr (.inl (fun _ => 0))))]
def F_Judge (cx : zX) (n : Nat) (a1 : Nat) : List Value := [(0, .ref a1), (1, .ref (b_a cx (n + 0)))].foldl (fun l q => l.set q.1 q.2) (b_df 5)
theorem c_Judge {cx : zX} {n t : Nat} {f : Nat → va_E} {a1 : Nat} (hf : f t = .inr (5, b_df 5)) (ht : t < n) : bOk y_Judge prog_7_method_1_code 2 1 13 1 40 cx [.ref (b_a cx t), .ref a1] n f (n + 1, b_up (b_cat n f (T_Judge cx)) t (.inr (5, F_Judge cx n a1))) := by
  refine b_enter rfl (by decide) (Nat.le_of_ble_eq_true rfl) (fun p l e s m below meth c ls I hB hl hS => ?_)
  have hl : lv_has ls 2 [(0, .ref (b_a cx t)), (1, .ref a1)] := hl
  have hx := I.1
  have hb := I.2.1
  have hB := hB.cat0 hf
  have hfl : (b_df 5).length = 2 := by decide +kernel
  generalize hfs0 : b_df 5 = fs0 at hB hfl
  refine lv_aload_n hx hb (show decode prog_7_method_1_code 0 = .ok (.aload_n 0, 1) by decide +kernel) rfl (lv_at hl 0 rfl) ?_
  refine b_obj I (idx := 3) (zw (by decide +kernel) rfl) hl.1 (show decode prog_7_method_1_code 1 = .ok (.invokespecial 3, 3) by decide +kernel) (by decide) (by decide) ?_
  refine lv_aload_n hx hb (show decode prog_7_method_1_code 4 = .ok (.aload_n 0, 1) by decide +kernel) rfl (lv_at hl 0 rfl) ?_
  refine lv_aload_n hx hb (show decode prog_7_method_1_code 5 = .ok (.aload_n 1, 1) by decide +kernel) rfl (lv_at hl 1 rfl) ?_
  refine n_put I hS hB (by omega) (ci := 5) rfl 0 (by decide) (index := 9) (zw (by decide +kernel) rfl) rfl (ty := .object "JobText$Fault") (by decide +kernel) rfl rfl (by rw [hfl]; decide) (show decode prog_7_method_1_code 6 = .ok (.putfield 9, 3) by decide +kernel) (fs' := fs0.set 0 (.ref a1)) rfl (fun H locs hB hS => ?_)
  replace hfl : (fs0.set 0 (.ref a1)).length = 2 := (List.length_set ..).trans hfl
  generalize hfs1 : fs0.set 0 (.ref a1) = fs1 at hB hfl
  refine lv_aload_n hx hb (show decode prog_7_method_1_code 9 = .ok (.aload_n 0, 1) by decide +kernel) rfl (lv_at hl 0 rfl) ?_
  refine lv_bipush hx hb (show decode prog_7_method_1_code 10 = .ok (.bipush (40), 2) by decide +kernel) rfl ?_
  refine n_newa I hS hB ht rfl (atype := .long) (zw (by decide +kernel) rfl) (tt := 1) rfl (fun C h => by cases h) (N' := 40) (a0 := (40, .inr (.inl (fun _ => 0)))) (fun cA => rfl) (by decide) rfl (by decide) (by decide) (by decide) (show decode prog_7_method_1_code 12 = .ok (.newarray .long, 2) by decide +kernel) (fun H hB hS => ?_)
  refine n_put I hS hB (by omega) (ci := 5) rfl 1 (by decide) (index := 15) (zw (by decide +kernel) rfl) rfl (ty := .array (.long)) (by decide +kernel) rfl rfl (by rw [hfl]; decide) (show decode prog_7_method_1_code 14 = .ok (.putfield 15, 3) by decide +kernel) (fs' := fs1.set 1 (.ref (b_a cx (n + 0)))) rfl (fun H locs hB hS => ?_)
  replace hfl : (fs1.set 1 (.ref (b_a cx (n + 0)))).length = 2 := (List.length_set ..).trans hfl
  generalize hfs2 : fs1.set 1 (.ref (b_a cx (n + 0))) = fs2 at hB hfl
  subst hfs2 hfs1 hfs0
  exact b_ret I (u := (_, _)) hB hS (by decide) (by decide) (show decode prog_7_method_1_code 17 = .ok (.return_, 1) by decide +kernel)
