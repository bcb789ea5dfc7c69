/-! ===== constructors: how one begins, ends, and is called ===== -/
theorem zw {w : Cond} (h : decide (w ∈ lw_tbl) = true) (hg : goodWord w = true) : w ∈ zTG := List.mem_filter.mpr ⟨of_decide_eq_true h, hg⟩
theorem oi_inst : Cond.instanceMethod objectInit ∈ zTG := zw (by decide +kernel) rfl
theorem oi_code : Cond.code objectInit ⟨#[0xb1]⟩ 1 none ∈ zTG := zw (by decide +kernel) rfl
/-- what holds all through a constructor's body -/
def b_In (cx : zX) (cd : ByteArray) (mL : Nat) (own : String) (p : Program) (s : State) (m : MethodId) (args : Array Value) (meth : Method) (c : Code) : Prop :=
  p.tables.exec = Jvm.exec ∧ c.code = cd ∧ meth.sig.returnType = none ∧ c.maxLocals = mL ∧ s.vm.findClass own = some m.cls ∧ (∀ w ∈ zTG, w.before args s = true) ∧ meth.locks = false ∧ meth.name = "<init>" ∧ b_E cx s
theorem b_enter {y : MethodName} {cd : ByteArray} {mL fr lo mc ms : Nat} {cx : zX} {as : List Value} {n : Nat} {f : Nat → va_E} {u : Nat × (Nat → va_E)} (hy : y.name = "<init>") (hpl : plainName y.cls = true) (hsl : (lg_sl as).length ≤ mL)
    (k : ∀ (p : Program) (l : Launch) (e : Env) (s : State) (m : MethodId) (below : List Frame) (meth : Method) (c : Code) (ls : Array Slot), b_In cx cd mL y.cls p s m as.toArray meth c → b_W cx n f s.heap → lv_has ls mL (lv_args 0 as) → va_S (z_A cx) s.heap s.heap [] →
      W p l e (b_rm fr lo mc ms) s m as.toArray below meth c s.heap [] 0 0 (MQ below (va_Qv (fun v => v = u) (b_B cx) (z_A cx)) as.toArray s mc ms (z_A cx)) (F0 m 0 ls [])) : bOk y cd mL fr lo mc ms cx as n f u := by
  intro l
  refine Met.ofW (cc := cd) (maxL := mL) (ret := none) hpl rfl ?_
  intro p e s m args below meth c s₁ B hml hp
  obtain ⟨rfl, hB, hE⟩ := hp
  have hts := atoms_spec (ws := Cond.code y cd mL none :: zTG) B.pre
  rw [lg_entry_eq]
  exact k p l e s m below meth c _ ⟨B.exec, B.bytes, B.returns, hml, findClass_of_methodNamed B.named, fun w hw => hts w (List.mem_cons_of_mem _ hw), B.notSynchronized, ((name_of_methodNamed B.named B.method).1).trans hy, hE⟩ hB (lv_entry as hsl) va_S.rf
theorem b_E.go {cx : zX} {s U : State} {H : Heap} {locs : List Loc} (h : b_E cx s) (hS : va_S (z_A cx) s.heap H locs) (hU : U.heap = H) (hW : s.WarmedH U.vm) : b_E cx U :=
  ⟨va_K.moved hW.alike h.1, h.2.1.go hW (fun a h1 h2 => by rw [hU]; exact hS.2.1 a h1 h2), fun C hC => (h.2.2.1 C hC).moved hW.alike, fun q hq => (h.2.2.2 q hq).warmM hW⟩
section BI
variable {p : Program} {l : Launch} {e : Env} {R : Room} {s : State} {m : MethodId} {args : Array Value} {below : List Frame} {meth : Method} {c : Code} {H : Heap} {locs : List Loc} {cells slots : Nat} {Q : State → Prop}
variable {cd : ByteArray} {pc mL : Nat} {ls : Array Slot} {rest : List Value} {cx : zX} {n : Nat} {f : Nat → va_E} {own : String}
/-- its end -/
theorem b_ret (I : b_In cx cd mL own p s m args meth c) {u : Nat × (Nat → va_E)} (hB : b_W cx u.1 u.2 H) (hS : va_S (z_A cx) s.heap H locs) {mc ms : Nat} (hc : cells ≤ mc) (hs : slots ≤ ms) (hdg : decode cd pc = .ok (.return_, 1)) :
    W p l e R s m args below meth c H locs cells slots (MQ below (va_Qv (fun v => v = u) (b_B cx) (z_A cx)) args s mc ms (z_A cx)) (F0 m pc ls []) := by
  obtain ⟨hx, hb, hr, hml, hown, hts, hlk, hin, hE⟩ := I
  refine W.widen (k := mc) (n := ms) hc hs ?_
  exact W.vret hx hb hr (fun t ht hW => ⟨⟨u, rfl, rfl, by rw [ht]; exact hB, hE.go hS ht hW⟩, hS.F ht⟩) (fun q hq => hS.2.2 q hq) hdg hlk
/-- the call of Object's constructor -/
theorem b_obj (I : b_In cx cd mL own p s m args meth c) {idx : Nat} (hl : Cond.methodLink own idx objectInit ∈ zTG) (hsz : ls.size = mL) {a : Nat} (hdg : decode cd pc = .ok (.invokespecial idx, 3)) (hfr : 1 ≤ R.frames) (hlo : 12 ≤ R.locals)
    (kk : W p l e R s m args below meth c H locs cells slots Q (F0 m (pc + 3) ls [])) : W p l e R s m args below meth c H locs cells slots Q (F0 m pc ls [.ref a]) := by
  obtain ⟨hx, hb, hr, hml, hown, hts, hlk, hin, hE⟩ := I
  exact W.objInit hx hb hown (hts _ hl) (hts _ oi_inst) (hts _ oi_code) rfl (by rw [hml]; exact hsz) rfl hdg hfr (by simpa using hlo) (W.eq (g2 := F0 m (pc + 3) ls []) rfl kk)
end BI
theorem c_Input {cx : zX} {n : Nat} {f : Nat → va_E} {t : Nat} : bOk y_Input prog_5_method_1_code 1 1 12 0 0 cx [.ref t] n f (n, f) := by
  refine b_enter rfl (by decide) (Nat.le_of_ble_eq_true rfl) (fun p l e s m below meth c ls I hB hl hS => ?_)
  have hl : lv_has ls 1 [(0, .ref t)] := hl
  have hx := I.1
  have hb := I.2.1
  refine lv_aload_n hx hb (show decode prog_5_method_1_code 0 = .ok (.aload_n 0, 1) by decide +kernel) rfl (lv_at hl 0 rfl) ?_
  refine b_obj I (idx := 1) (zw (by decide +kernel) rfl) hl.1 (by decide +kernel) (by decide) (by decide) ?_
  exact b_ret I (u := (n, f)) hB hS (Nat.le_refl _) (Nat.le_refl _) (by decide +kernel)
