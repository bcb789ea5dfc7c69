/-! ===== what the abstract values and cells are in the machine ===== -/
/-- fields' names, addresses of the cells, classes of arrays, the formatter, the first address of the world -/
abbrev zX : Type := va_G × (zR → Nat) × (Nat → ClassId) × Option Nat × Nat
/-- whether the world stands (before it does, constants alone are valid) -/
def z_on (cx : zX) : Prop := cx.2.1 (99, 0, 0) = 0
def z_vl (cx : zX) (q : zR) : Prop := q.2.2 < z_bd q.1 q.2.1 ∧ (10 ≤ q.1 → z_on cx)
abbrev z_ad (cx : zX) : zR → Nat := cx.2.1
abbrev z_A (cx : zX) : Nat → Prop := fun q => cx.2.2.2.2 ≤ q
def z_cv (cx : zX) (v : zV) : Value := match v with
  | .inl x => .int x
  | .inr (.inl x) => .long x
  | .inr (.inr q) => if q.1 = 3 then va_rf cx.2.2.2.1 else .ref (cx.2.1 q)
def z_vv (cx : zX) (v : zV) : Prop := match v with
  | .inr (.inr q) => z_vl cx q
  | _ => True
def z_fv (cx : zX) (h : zH) (q : zR) (k : Nat) : Value := match z_tc q.1 k with
  | 0 => .int (h.1 q k)
  | 5 => .int (h.1 q k)
  | 1 => .long (h.2.1 q k)
  | 2 => .ref (cx.2.1 (z_fr q k))
  | _ => va_rf ((h.2.2 q k).map cx.2.1)
def z_ac (cx : zX) (h : zH) (q : zR) : vp_A := (z_ln q, match z_at q.1 with
  | 1 => .inr (.inl (h.2.1 q))
  | 4 => .inr (.inr (.inr (.inr (fun j => some (cx.2.1 (z_el q j))))))
  | 5 => .inr (.inr (.inr (.inr (fun j => (h.2.2 q j).map cx.2.1))))
  | _ => .inl (h.1 q))
def z_cell (cx : zX) (h : zH) (q : zR) : va_E :=
  if q.1 < 23 then .inr (q.1 - 10, (List.range (z_nf (q.1 - 10))).map (z_fv cx h q)) else .inl (cx.2.2.1 (z_t0 q.1), z_ac cx h q)
def z_tys (cx : zX) : List (ClassId × FieldType) := [(cx.2.2.1 0, .int), (cx.2.2.1 1, .long), (cx.2.2.1 2, .byte), (cx.2.2.1 3, .boolean), (cx.2.2.1 4, .object RX0), (cx.2.2.1 5, .object RX4), (cx.2.2.1 6, .object RX7), (cx.2.2.1 7, .object RX3), (cx.2.2.1 8, .object RX8), (cx.2.2.1 9, .object RX2)]
/-- the cells -/
def z_P (cx : zX) (h : zH) (H : Heap) : Prop := (∀ q : zR, z_vl cx q → 10 ≤ q.1 → va_at cx.1 zcl (cx.2.1 q, z_cell cx h q) H) ∧ ∀ (q : zR) (k : Nat) (q' : zR), h.2.2 q k = some q' → z_vl cx q' ∧ q'.1 ≠ 3
/-- addresses of cells are apart and of the world -/
def z_D (cx : zX) : Prop := (∀ q q' : zR, z_vl cx q → 10 ≤ q.1 → z_vl cx q' → 10 ≤ q'.1 → cx.2.1 q = cx.2.1 q' → q = q') ∧ ∀ q : zR, z_vl cx q → 10 ≤ q.1 → cx.2.2.2.2 ≤ cx.2.1 q
/-- constants -/
def z_C (cx : zX) (U : State) : Prop :=
  vk_S 26 (z_sb.map List.length) z_sb (fun i => cx.2.1 (0, i, 0)) (fun i => cx.2.1 (1, i, 0)) (z_A cx) U U.heap ∧
  va_Z "java/lang/String" "COMPACT_STRINGS" "Z" (.int 1) (z_A cx) U U.heap ∧
  va_Z "jdk/internal/util/Preconditions" "SIOOBE_FORMATTER" "Ljava/util/function/BiFunction;" (va_rf cx.2.2.2.1) (z_A cx) U U.heap ∧
  va_Z RX9 "MAY_STAND" "[I" (.ref (cx.2.1 (2, 0, 0))) (z_A cx) U U.heap ∧
  va_Z RX11 "PROPERTIES" "[I" (.ref (cx.2.1 (2, 1, 0))) (z_A cx) U U.heap ∧
  (∀ i : Nat, i < 2 → va_T .int (cx.2.1 (2, i, 0)) (z_ln (2, i, 0)) (fun j => .int ((z_ci.getD i []).getD j 0)) (z_A cx) U U.heap) ∧
  (∀ (o : Nat) (r : Nat × Nat × Nat × Nat), r ∈ z_mls.getD o [] → r.2.2.1 = 2 → va_Nw (.methodLinkNest (z_cn o) r.1 (z_m r.2.1).1 RX11) U) ∧
  va_Nw (.fieldLinkNest RX9 216 RX11 "PROPERTIES" "[I" RX11) U ∧
  (∀ (o : Nat) (r : Nat × Nat × String), r ∈ z_sls.getD o [] → vk_R (z_cn o) r.1 r.2.2 (cx.2.1 (0, r.2.1, 0)) U)
def z_W (cx : zX) (h : zH) (U : State) : Prop := z_P cx h U.heap ∧ va_K cx.1 zcl (z_tys cx) U ∧ z_C cx U ∧ z_D cx
def z_Q (cx : zX) (Q : Option zV → zH → Prop) : Array Value → State → Outcome → State → Prop := fun _ st o t =>
  (∃ (r : Option zV) (hh : zH), o = .returned (r.map (z_cv cx)) ∧ z_W cx hh t ∧ (∀ v, r = some v → z_vv cx v) ∧ Q r hh) ∧ va_F (z_A cx) st t
def z_ws (y : Nat) : List Cond := Cond.code (z_m y).1 (z_m y).2.1 (z_m y).2.2.1 (z_m y).2.2.2.1 :: zTG
def z_rm (y : Nat) : Room := { frames := (z_m y).2.2.2.2.1.2.1, cells := 0, slots := 0, locals := (z_m y).2.2.2.2.1.2.2 }
/-- method y, from these arguments and this heap, returns, and Q holds -/
def zOk (y : Nat) (as : List zV) (h : zH) (Q : Option zV → zH → Prop) : Prop :=
  ∀ (cx : zX) (l : Launch), (∀ v ∈ as, z_vv cx v) → Met l (z_m y).1 (z_ws y) (z_rm y) (va_Pc (as.map (z_cv cx)) (z_W cx h)) (z_Q cx Q) 0 0 (z_A cx)
def z_qV (K : zH → Prop) (r : Option zV) (h : zH) : Prop := match r with
  | none => K h
  | _ => False
def z_qI (K : Int32 → zH → Prop) (r : Option zV) (h : zH) : Prop := match r with
  | some (.inl x) => K x h
  | _ => False
def z_qL (K : Int64 → zH → Prop) (r : Option zV) (h : zH) : Prop := match r with
  | some (.inr (.inl x)) => K x h
  | _ => False
def z_qR (K : zR → zH → Prop) (r : Option zV) (h : zH) : Prop := match r with
  | some (.inr (.inr x)) => x.1 ≠ 3 ∧ K x h
  | _ => False
def zOkV (y : Nat) (as : List zV) (h : zH) (K : zH → Prop) : Prop := zOk y as h (z_qV K)
def zOkI (y : Nat) (as : List zV) (h : zH) (K : Int32 → zH → Prop) : Prop := zOk y as h (z_qI K)
def zOkL (y : Nat) (as : List zV) (h : zH) (K : Int64 → zH → Prop) : Prop := zOk y as h (z_qL K)
def zOkR (y : Nat) (as : List zV) (h : zH) (K : zR → zH → Prop) : Prop := zOk y as h (z_qR K)
/-- the locals that are known -/
def z_LR (cx : zX) (L : zL) (ls : Array Slot) : Prop := lv_has ls L.length ((List.range L.length).filterMap (fun i => (L[i]?.join).map (fun v => (i, z_cv cx v)))) ∧ ∀ (i : Nat) (v : zV), L[i]? = some (some v) → z_vv cx v
/-- what holds all through a method's body -/
def z_E (cx : zX) (y : Nat) (p : Program) (s : State) (m : MethodId) (args : Array Value) (meth : Method) (c : Code) (H : Heap) (locs : List Loc) : Prop :=
  p.tables.exec = Jvm.exec ∧ c.code = (z_m y).2.1 ∧ meth.sig.returnType = (z_m y).2.2.2.1 ∧ c.maxLocals = (z_m y).2.2.1 ∧ s.vm.findClass (z_m y).1.cls = some m.cls ∧ (∀ w ∈ zTG, w.before args s = true) ∧ meth.locks = false ∧ va_K cx.1 zcl (z_tys cx) s ∧ z_C cx s ∧ z_D cx ∧ va_S (z_A cx) s.heap H locs
/-- method y, within its body at pc with these locals, this operand stack and this heap, comes to its end with Q -/
def zAt (y pc : Nat) (L : zL) (st : List zV) (h : zH) (Q : Option zV → zH → Prop) : Prop :=
  L.length = (z_m y).2.2.1 → ∀ (cx : zX) (p : Program) (l : Launch) (e : Env) (s : State) (m : MethodId) (args : Array Value) (below : List Frame) (meth : Method) (c : Code) (H : Heap) (locs : List Loc) (ls : Array Slot),
    z_E cx y p s m args meth c H locs → z_P cx h H → z_LR cx L ls → (∀ v ∈ st, z_vv cx v) →
    W p l e (z_rm y) s m args below meth c H locs 0 0 (MQ below (z_Q cx Q) args s 0 0 (z_A cx)) (F0 m pc ls (st.map (z_cv cx)))
