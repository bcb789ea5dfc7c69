/-! ===== what a program decides about the static tables ===== -/
def z_chkM (r : zM) : Bool :=
  decide (lw_tbl[r.2.2.2.2.2.2.2.1]? = some (Cond.initialized r.1.cls)) &&
  (if r.2.2.2.2.2.1.1 then decide (lw_tbl[r.2.2.2.2.2.2.2.2.1]? = some (Cond.static r.1)) else decide (lw_tbl[r.2.2.2.2.2.2.2.2.1]? = some (Cond.instanceMethod r.1)) && decide (lw_tbl[r.2.2.2.2.2.2.2.2.2]? = some (Cond.selects r.1.cls r.1 r.1))) &&
  plainName r.1.cls && decide (r.1.cls ≠ "java/lang/invoke/MethodHandle") && decide (r.1.cls ≠ "java/lang/invoke/VarHandle") && decide ((parseMethodDescriptor r.1.desc).map (fun d => d.parameters.length) = some r.2.2.2.2.2.1.2) && decide (z_cn r.2.2.2.2.1.1 = r.1.cls)
theorem z_chkM_ok : z_ms.all z_chkM = true := by decide +kernel
def z_cw (r : zM) : Option Cond := some (Cond.code r.1 r.2.1 r.2.2.1 r.2.2.2.1)
def z_cx (r : zM) : Option Cond := lw_tbl[r.2.2.2.2.2.2.1]?
set_option maxRecDepth 100000 in
theorem z_cwk_0 : z_ms0.map z_cx = z_ms0.map z_cw := rfl
set_option maxRecDepth 100000 in
theorem z_cwk_1 : z_ms1.map z_cx = z_ms1.map z_cw := rfl
set_option maxRecDepth 100000 in
theorem z_cwk_2 : z_ms2.map z_cx = z_ms2.map z_cw := rfl
set_option maxRecDepth 100000 in
theorem z_cwk_3 : z_ms3.map z_cx = z_ms3.map z_cw := rfl
set_option maxRecDepth 100000 in
theorem z_cwk_4 : z_ms4.map z_cx = z_ms4.map z_cw := rfl
theorem z_cwk : z_ms.map z_cx = z_ms.map z_cw := by
  unfold z_ms
  simp only [List.map_append, z_cwk_0, z_cwk_1, z_cwk_2, z_cwk_3, z_cwk_4]
theorem z_map_eq {α β : Type} {f g : α → β} : ∀ {l : List α}, l.map f = l.map g → ∀ r ∈ l, f r = g r
  | [], _, r, h => by cases h
  | a :: l, e, r, h => by
    simp only [List.map_cons, List.cons.injEq] at e
    rcases List.mem_cons.mp h with h | h
    · rw [h]; exact e.1
    · exact z_map_eq e.2 r h
theorem z_ms_len : z_ms.length = 247 := by decide +kernel
def z_chkF (o : Nat) (q : Nat × Nat × Nat) : Bool :=
  if q.2.1 / 1024 = 0 then decide (lw_tbl[q.2.2]? = some (Cond.fieldLink (z_cn o) q.1 "java/lang/String" (if q.2.1 % 8 = 4 then "value" else "coder") (if q.2.1 % 8 = 4 then "[B" else "B"))) && (q.2.1 % 8 == 4 || q.2.1 % 8 == 6)
  else match zcl[q.2.1 / 1024 - 10]? with
    | some (_, T, N) => decide (10 ≤ q.2.1 / 1024) && decide (q.2.1 / 8 % 128 < N) && decide (lw_tbl[q.2.2]? = some (Cond.fieldLink (z_cn o) q.1 (T (q.2.1 / 8 % 128)).1 (T (q.2.1 / 8 % 128)).2.1 (T (q.2.1 / 8 % 128)).2.2.1)) && decide (q.2.1 % 8 = z_tc (q.2.1 / 1024) (q.2.1 / 8 % 128))
    | none => false
theorem z_chkF_ok : ((List.range 17).all fun o => (z_fls.getD o []).all (z_chkF o)) = true := by decide +kernel
def z_chkL (o : Nat) (q : Nat × Nat × Nat × Nat) : Bool :=
  Nat.blt q.2.1 247 && (match q.2.2.1 with
    | 0 => !(z_m q.2.1).2.2.2.2.2.1.1 && decide (lw_tbl[q.2.2.2]? = some (Cond.methodLink (z_cn o) q.1 (z_m q.2.1).1))
    | 1 => (z_m q.2.1).2.2.2.2.2.1.1 && decide (lw_tbl[q.2.2.2]? = some (Cond.methodLink (z_cn o) q.1 (z_m q.2.1).1))
    | 2 => (z_m q.2.1).2.2.2.2.2.1.1
    | 3 => decide (lw_tbl[q.2.2.2]? = some (Cond.methodLink (z_cn o) q.1 Lib.Math.max.name))
    | 4 => decide (lw_tbl[q.2.2.2]? = some (Cond.methodLink (z_cn o) q.1 Lib.Math.min.name))
    | _ => false)
theorem z_chkL_ok : ((List.range 17).all fun o => (z_mls.getD o []).all (z_chkL o)) = true := by decide +kernel
theorem z_chkK_ok : ((List.range 17).all fun o => (z_kls.getD o []).all fun q => decide (lw_tbl[q.2.2]? = some (Cond.constant (z_cn o) q.1 (Int32.ofInt q.2.1)))) = true := by decide +kernel
theorem z_chkLL_ok : ((List.range 17).all fun o => (z_lls.getD o []).all fun q => decide (lw_tbl[q.2.2]? = some (Cond.constantLong (z_cn o) q.1 (Int64.ofInt q.2.1)))) = true := by decide +kernel
theorem z_chkS_ok : ((List.range 17).all fun o => (z_sls.getD o []).all fun q => Nat.blt q.2.1 26) = true := by decide +kernel
def z_chkG (o : Nat) (q : Nat × Nat × Nat) : Bool := match q.2.1 with
  | 0 => decide (lw_tbl[q.2.2]? = some (Cond.fieldLink (z_cn o) q.1 "java/lang/String" "COMPACT_STRINGS" "Z"))
  | 1 => decide (lw_tbl[q.2.2]? = some (Cond.fieldLink (z_cn o) q.1 "jdk/internal/util/Preconditions" "SIOOBE_FORMATTER" "Ljava/util/function/BiFunction;"))
  | 2 => decide (lw_tbl[q.2.2]? = some (Cond.fieldLink (z_cn o) q.1 RX9 "MAY_STAND" "[I"))
  | 3 => decide (o = 9 ∧ q.1 = 216)
  | _ => false
theorem z_chkG_ok : ((List.range 17).all fun o => (z_gls.getD o []).all (z_chkG o)) = true := by decide +kernel
theorem z_lens : z_fls.length = 17 ∧ z_mls.length = 17 ∧ z_kls.length = 17 ∧ z_lls.length = 17 ∧ z_sls.length = 17 ∧ z_gls.length = 17 := by decide +kernel
/-- fields: types, names apart, what is final -/
def z_ft (t : Nat) : FieldType := match t with
  | 0 => .int
  | 5 => .boolean
  | _ => .long
def z_chkT (c : Nat) : Bool := match zcl[c]? with
  | some (_, T, N) => Nat.beq N (z_nf c) && (List.range N).all fun k => (match z_tc (c + 10) k with
    | 2 => (T k).2.2.2
    | 3 => !(T k).2.2.2 && (match parseFieldDescriptor (T k).2.2.1 with
      | some (.object _) => true
      | _ => false)
    | 9 => false
    | t => !(T k).2.2.2 && decide (parseFieldDescriptor (T k).2.2.1 = some (z_ft t)) && (t == 0 || t == 5 || t == 1))
  | none => false
theorem z_chkT_ok : (List.range 13).all z_chkT = true := by decide +kernel
/-- ways from valid cells lead to valid cells -/
theorem z_chkV_ok : ((List.range 13).all fun c => (List.range (z_nf c)).all fun f => !(z_tc (c + 10) f == 2) || ((List.range 10).all fun i => (List.range (z_bd (c + 10) i)).all fun j => Nat.blt (z_fr (c + 10, i, j) f).2.2 (z_bd (z_fr (c + 10, i, j) f).1 (z_fr (c + 10, i, j) f).2.1) && Nat.ble 10 (z_fr (c + 10, i, j) f).1)) = true := by decide +kernel
theorem z_chkE_ok : ((List.range 182).all fun k => !(z_at k == 4) || ((List.range 10).all fun i => (List.range (z_bd k i)).all fun j => (List.range (z_ln (k, i, j))).all fun n => Nat.blt (z_el (k, i, j) n).2.2 (z_bd (z_el (k, i, j) n).1 (z_el (k, i, j) n).2.1) && Nat.ble 10 (z_el (k, i, j) n).1)) = true := by decide +kernel
theorem z_chkB_ok : ((List.range 182).all fun k => Nat.ble k 9 || Nat.ble (z_bds.getD k []).length 10) = true := by decide +kernel
theorem z_bds_len : z_bds.length = 182 ∧ z_ats.length = 182 ∧ z_t0s.length = 182 := by decide +kernel
theorem z_chkA_ok : ((List.range 182).all fun k => match z_at k with
  | 0 => Nat.beq (z_t0 k) 0 && Nat.ble 23 k
  | 1 => Nat.beq (z_t0 k) 1 && Nat.ble 23 k
  | 2 => Nat.beq (z_t0 k) 2 && Nat.ble 23 k
  | 3 => Nat.beq (z_t0 k) 3 && Nat.ble 23 k
  | 4 => Nat.ble 4 (z_t0 k) && Nat.ble (z_t0 k) 9 && Nat.ble 23 k
  | 5 => Nat.beq (z_t0 k) 5 && Nat.ble 23 k
  | 8 => Nat.beq k 1
  | 9 => Nat.beq k 2
  | 99 => true
  | _ => false) = true := by decide +kernel
theorem z_math_ok : lw_tbl[122]? = some (.initialized "java/lang/Math") ∧ lw_tbl[155]? = some (.static Lib.Math.max.name) ∧ lw_tbl[156]? = some (.code Lib.Math.max.name Lib.Math.max.code 2 (some .int)) ∧ lw_tbl[868]? = some (.static Lib.Math.min.name) ∧ lw_tbl[869]? = some (.code Lib.Math.min.name Lib.Math.min.code 2 (some .int)) := by decide +kernel
