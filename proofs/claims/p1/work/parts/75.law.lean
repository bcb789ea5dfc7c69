/-! ===== the law: what the skeleton has ahead of whole_start (a starting text) ===== -/
def R_law : String := "JobTextLaw"
def lw_P (b : Addr) (xs : List Int32) (args : Array Value) (s : State) : Prop := args = #[.ref b] ∧ s.IntsAt b xs ∧ xs.length ≤ 5 ∧ (Jvm.Cond.and given_1 narrow_1).before args s = true
def lw_Q (_ : Array Value) (s : State) (o : Outcome) (t : State) : Prop := o = .returned (some (.int 1)) ∧ Framed s o t [] 600000 7302249
def lw_Z (below : List Frame) (a : Array Value) (s : State) : State → Prop := fun t => ∃ o, t.status = .running ∧ Ended t below o ∧ lw_Q a s o t
/-- the law's own end, with 1 on the stack, nothing written that was there before, its room as the claim has it -/
theorem lw_ret {p : Program} {l : Launch} {e : Env} {s : State} {m : MethodId} {below : List Frame} {meth : Method} {c : Code} {b : Nat} (hx : p.tables.exec = Jvm.exec) (hb : c.code = code) (hr : meth.sig.returnType = ret) (hlocks : meth.locks = false) {pc : Nat} {H : Heap} {ls : Array Slot} (hdg : decode code pc = .ok (.ireturn, 1)) : W p l e room_1 s m #[Value.ref b] below meth c H [] 600000 7302249 (lw_Z below #[Value.ref b] s) (F0 m pc ls [.int 1]) := by
  intro T hT X
  obtain ⟨fs, hret, hrun, hended, hW, hframe⟩ := X.leave (v := some (.int 1)) (hlocks := hlocks) (fun h => by rw [hr] at h; cases h)
  have hmeth' : T.vm.method? m = some meth := X.method'
  refine ⟨T.setFrames fs, ?_, .returned (some (.int 1)), hrun, hended, rfl, ⟨_, rfl⟩, hW, hframe⟩
  jvm_step X.here [X.here.top, hx, hb, hdg, hmeth', hr, ret, narrow_b1]
  (try refine ⟨rfl, ?_⟩); (try refine ⟨rfl, ?_⟩)
  first | (intro acts; rw [hret _ acts rfl rfl rfl]) | rw [hret _ _ rfl rfl rfl]
  exact Steps.refl _
/-- what holds at the law's entry: the machine, the code, the tables' words (any of lw_tbl by 'hts w (by decide +kernel)'), the script of L ints xs at the cell b, what the Statement gives of the start (any of its parts by flat_of_before) -/
def lw_At (p : Program) (s : State) (m : MethodId) (meth : Method) (c : Code) (b L : Nat) (xs : Nat → Int32) : Prop :=
  p.tables.exec = Jvm.exec ∧ c.code = code ∧ meth.sig.returnType = ret ∧ c.maxLocals = 4 ∧ s.vm.findClass R_law = some m.cls ∧ (∀ w ∈ lw_tbl, w.before #[Value.ref b] s = true) ∧ va_X b L xs s s.heap ∧ b < s.heap.size ∧ meth.locks = false ∧ (Jvm.Cond.and given_1 narrow_1).before #[Value.ref b] s = true

/-! ===== the law: its context, its calls, its end ===== -/
/-- what holds all through the law's body on a script of five -/
def lw_C (cx : zX) (p : Program) (s : State) (m : MethodId) (meth : Method) (c : Code) (b : Nat) (xs : Nat → Int32) : Prop :=
  p.tables.exec = Jvm.exec ∧ c.code = code ∧ c.maxLocals = 4 ∧ s.vm.findClass R_law = some m.cls ∧ (∀ w ∈ zTG, w.before #[Value.ref b] s = true) ∧ va_X b 5 xs s s.heap ∧ b < s.heap.size ∧ cx.2.2.2.2 = s.heap.size ∧ va_K cx.1 zcl (z_tys cx) s ∧ z_C cx s ∧ z_D cx ∧ z_on cx ∧ meth.sig.returnType = ret ∧ meth.locks = false
abbrev lw_lv (cx : zX) (b : Nat) (i : Nat) : List (Nat × Value) := [(0, .ref b), (1, .ref (cx.2.1 (21, 0, 0))), (2, .ref (cx.2.1 (22, 0, 0))), (3, .int (nI i))]
section LAW
variable {cx : zX} {p : Program} {l : Launch} {e : Env} {s : State} {m : MethodId} {below : List Frame} {meth : Method} {c : Code} {H : Heap} {locs : List Loc} {cells slots : Nat} {Q : State → Prop} {b : Nat} {xs : Nat → Int32} {ls : Array Slot} {pc : Nat} {rest : List Value} {h : zH} {R : Room} {args : Array Value}
/-- an int of the script -/
theorem lw_arg (C0 : lw_C cx p s m meth c b xs) (hS : va_S (z_A cx) s.heap H locs) (hl : lv_has ls 4 (lw_lv cx b 0)) (k : Nat) {v : Int} (hk : k < 5) (hv : Int32.ofInt v = nI k) (d1 : decode code pc = .ok (.aload_n 0, 1)) (d2 : decode code (pc + 1) = .ok (.iload_n 3, 1)) (d3 : decode code (pc + 1 + 1) = .ok (.iconst v, 1)) (d4 : decode code (pc + 1 + 1 + 1) = .ok (.iadd, 1)) (d5 : decode code (pc + 1 + 1 + 1 + 1) = .ok (.iaload, 1))
    (kk : W p l e R s m args below meth c H locs cells slots Q (F0 m (pc + 1 + 1 + 1 + 1 + 1) ls (.int (xs k) :: rest))) : W p l e R s m args below meth c H locs cells slots Q (F0 m pc ls rest) := by
  obtain ⟨hx, hb, hml, hown, hts, hX, hbl, hbase, hK, hC, hD, hon, -⟩ := C0
  have hbA : ¬ z_A cx b := fun z => absurd (show cx.2.2.2.2 ≤ b from z) (by omega)
  refine lv_aload_n hx hb d1 rfl (lv_at hl 0 rfl) ?_
  refine lv_iload_n hx hb d2 rfl (lv_at hl 3 rfl) ?_
  refine lv_iconst hx hb d3 hv ?_
  refine lv_iadd hx hb d4 ?_
  have e : nI 0 + nI k = nI k := by rw [nI_add, Nat.zero_add]
  rw [e]
  refine va_sld hx hb hX hbl hbA hS (vp_in_nI hk (by decide)) d5 ?_
  rw [nI_clamp (by omega)]
  exact kk
theorem l_callk {Qk : Option zV → zH → Prop} {a : Array Value} {st0 : List Value} (hr : va_Run p l e R s m args below meth c H locs cells slots 0 0 (F0 m pc ls st0) rest (z_Q cx Qk a) (z_A cx)) (hS : va_S (z_A cx) s.heap H locs)
    (kk : ∀ (r : Option zV) (hh : zH) (H1 : Heap) (locs1 : List Loc), z_P cx hh H1 → Qk r hh → va_S (z_A cx) s.heap H1 locs1 → W p l e R s m args below meth c H1 locs1 cells slots Q (F0 m (pc + 3) ls ((r.map (z_cv cx)).toList ++ rest))) : W p l e R s m args below meth c H locs cells slots Q (F0 m pc ls st0) := by
  intro T hT X
  obtain ⟨v, st₀, t, T', L, h0, X', hL, e1, e2, ⟨⟨r, hh, hv, hw, hvv, hq⟩, hz, hk⟩, st⟩ := hr T hT X
  have hv' : v = r.map (z_cv cx) := by cases hv; rfl
  subst hv'
  rw [h0] at hz hk
  obtain ⟨t2, a1, b1⟩ := kk r hh T'.heap (locs ++ L) (by rw [e1]; exact hw.1) hq
    ⟨Nat.le_trans hS.1 (by rw [e1]; exact hz), fun q h1 h2 => by rw [e1, hk q (Nat.lt_of_lt_of_le h1 hS.1) h2]; exact hS.2.1 q h1 h2, fun q hq => by
      rcases List.mem_append.mp hq with h | h
      · exact hS.2.2 q h
      · exact hL q h⟩ T' rfl X'
  exact ⟨t2, st t2 a1, b1⟩
/-- a call of one of the two objects -/
theorem l_call (C0 : lw_C cx p s m meth c b xs) (hS : va_S (z_A cx) s.heap H locs) (hl : lv_has ls 4 (lw_lv cx b 0)) (hP : z_P cx h H) {y : Nat} (hy : y < 247) (hns : (z_m y).2.2.2.2.2.1.1 = false) {q : zR} (hv : z_vl cx q) {ci : Nat} {r0 : vw_C} (hc : zcl[ci]? = some r0) (hq : q.1 = ci + 10) (hcl : (z_m y).1.cls = r0.1) {as : List zV} (hva : ∀ v ∈ as, z_vv cx v) {K : Int32 → zH → Prop} (hM : zOkI y (.inr (.inr q) :: as) h K) {index : Nat} (hlink : Cond.methodLink R_law index (z_m y).1 ∈ zTG) (hn : as.length = (z_m y).2.2.2.2.2.1.2) (hR : (z_m y).2.2.2.2.1.2.1 + 1 ≤ room_1.frames ∧ 8 + ((z_m y).2.2.1 + 11) + (z_m y).2.2.2.2.1.2.2 ≤ room_1.locals) {st : List Value} (hst : st = (as.map (z_cv cx)).reverse ++ .ref (cx.2.1 q) :: rest) (hW : (rest.map fun v => v.category).sum ≤ 8) (hdg : decode code pc = .ok (.invokevirtual index, 3)) (hf : cells ≤ room_1.cells ∧ slots ≤ room_1.slots)
    (kk : ∀ (r : Int32) (h1 : zH) (H1 : Heap) (locs1 : List Loc), K r h1 → z_P cx h1 H1 → va_S (z_A cx) s.heap H1 locs1 → W p l e room_1 s m #[Value.ref b] below meth c H1 locs1 cells slots Q (F0 m (pc + 3) ls (.int r :: rest))) : W p l e room_1 s m #[Value.ref b] below meth c H locs cells slots Q (F0 m pc ls st) := by
  obtain ⟨hx, hb, hml, hown, hts, hX, hbl, hbase, hK, hC, hD, hon, -⟩ := C0
  obtain ⟨hF1, hF2, -, hF4, -, hF6, hF7, hF8, hF9⟩ := z_mf hy
  have hlt : ci < 13 := (List.getElem?_eq_some_iff.mp hc).1
  have h3 : q.1 ≠ 3 := by omega
  have hrec : ∃ cellB : Cell, H[cx.2.1 q]? = some cellB ∧ cellB.vm.isStatics = false ∧ s.vm.findClass (z_m y).1.cls = some cellB.cls := by
    rw [hcl]
    have h1 := hP.one hv (by omega)
    rw [z_cell_o (by omega), show q.1 - 10 = ci by omega] at h1
    exact va_recv hK h1 hc (q0 := 0) rfl
  have hvq : ∀ v ∈ (.inr (.inr q) :: as : List zV), z_vv cx v := fun v hv' => by
    cases hv' with
    | head => exact hv
    | tail _ h => exact hva v h
  refine l_callk (Qk := z_qI K) (va_runV (C := (z_m y).1.cls) (As := as.map (z_cv cx)) (rest := rest) (b := cx.2.1 q) (Ts := zTG) (own := R_law) (n := (z_m y).2.2.2.2.2.1.2) ⟨hx, hb, hml, hown, hts⟩ (hM cx l hvq) ⟨callB_of _ hts (z_ws_in hy) rfl rfl rfl (hts _ hF2) (hts _ hlink) ⟨hF6, hF7, hF8⟩ hR, hts _ (hF4 hns).1, hts _ (hF4 hns).2⟩ ⟨z_W.blind, hrec, fun U hU hW => ⟨by rw [List.map_cons, z_cv_r h3], z_W.go hP hK hC hD hS hU hW⟩⟩ rfl (by rw [List.length_map]; exact hn) hl.1 hst (lv_room hW) hdg hf) hS (fun r hh H1 locs1 hP1 hq1 hS1 => ?_)
  match r, hq1 with
  | some (.inl x), hq1 => exact kk x hh H1 locs1 hq1 hP1 hS1
/-- the law's end -/
theorem lw_fin (C0 : lw_C cx p s m meth c b xs) (hS : va_S (z_A cx) s.heap H locs) (hc : cells ≤ 600000) (hs : slots ≤ 7302249) : W p l e room_1 s m #[Value.ref b] below meth c H locs cells slots (lw_Z below #[Value.ref b] s) (F0 m 894 ls []) := by
  obtain ⟨hx, hb, hml, hown, hts, hX, hbl, hbase, hK, hC, hD, hon, hr, hlk⟩ := C0
  refine lv_iconst hx hb (show decode code 894 = .ok (.iconst 1, 1) by decide +kernel) (v := 1) (by decide +kernel) ?_
  refine va_forget (fun q hq => ?_) ?_
  · have h1 : cx.2.2.2.2 ≤ q.base := hS.2.2 q hq
    omega
  refine W.widen hc hs ?_
  exact lw_ret hx hb hr hlk (show decode code 895 = .ok (.ireturn, 1) by decide +kernel)
/-- behind the one call -/
theorem lw_out (C0 : lw_C cx p s m meth c b xs) (hS : va_S (z_A cx) s.heap H locs) (hl : lv_has ls 4 (lw_lv cx b 0)) (hc : cells ≤ 600000) (hs : slots ≤ 7302249) : W p l e room_1 s m #[Value.ref b] below meth c H locs cells slots (lw_Z below #[Value.ref b] s) (F0 m 888 ls []) := by
  have C1 := C0
  obtain ⟨hx, hb, hml, hown, hts, hX, hbl, hbase, hK, hC, hD, hon, -⟩ := C0
  have hbA : ¬ z_A cx b := fun z => absurd (show cx.2.2.2.2 ≤ b from z) (by omega)
  refine lv_iinc hx hb (show decode code 888 = .ok (.iinc 3 5, 3) by decide +kernel) hl (k := 3) rfl (v := nI 5) (by decide +kernel) (by decide) (lv' := [(3, .int (nI 5)), (0, .ref b), (1, .ref (cx.2.1 (21, 0, 0))), (2, .ref (cx.2.1 (22, 0, 0)))]) rfl (fun ls hl => ?_)
  refine lv_goto hx hb (show decode code 891 = .ok (.goto (-873), 3) by decide +kernel) (tgt := 18) rfl ?_
  refine lv_iload_n hx hb (show decode code 18 = .ok (.iload_n 3, 1) by decide +kernel) rfl (lv_at hl 0 rfl) ?_
  refine lv_aload_n hx hb (show decode code 19 = .ok (.aload_n 0, 1) by decide +kernel) rfl (lv_at hl 1 rfl) ?_
  refine va_slen hx hb hX hbl hbA hS (show decode code 20 = .ok (.arraylength, 1) by decide +kernel) ?_
  refine lv_iconst hx hb (show decode code 21 = .ok (.iconst 5, 1) by decide +kernel) (v := 5) (by decide +kernel) ?_
  refine lv_isub hx hb (show decode code 22 = .ok (.isub, 1) by decide +kernel) ?_
  refine lv_icmp_gt hx hb (show decode code 23 = .ok (.if_icmp .gt 871, 3) by decide +kernel) (tgt := 894) rfl (fun _ => ?_) (fun h => absurd (by decide +kernel) h)
  exact lw_fin C1 hS hc hs
/-- two answers that are one -/
theorem lw_eq (C0 : lw_C cx p s m meth c b xs) (hS : va_S (z_A cx) s.heap H locs) (hl : lv_has ls 4 (lw_lv cx b 0)) (hc : cells ≤ 600000) (hs : slots ≤ 7302249) {r : Int32} {off : Int} (hdg : decode code pc = .ok (.if_icmp .eq off, 3)) (ht : (pc : Int) + off = (888 : Nat)) : W p l e room_1 s m #[Value.ref b] below meth c H locs cells slots (lw_Z below #[Value.ref b] s) (F0 m pc ls [.int r, .int r]) :=
  lv_icmp_eq C0.1 C0.2.1 hdg ht (fun _ => lw_out C0 hS hl hc hs) (fun z => absurd rfl z)
theorem z_vv1 {x : Int32} : ∀ v ∈ ([.inl x] : List zV), z_vv cx v := fun v hv => by
  cases hv with
  | head => exact trivial
  | tail _ h => cases h
theorem z_vv0 : ∀ v ∈ ([] : List zV), z_vv cx v := fun v hv => by cases hv
theorem z_vvI {x : Int32} {as : List zV} (h : ∀ v ∈ as, z_vv cx v) : ∀ v ∈ (.inl x :: as : List zV), z_vv cx v := z_vc trivial h
theorem z_vvL {x : Int64} {as : List zV} (h : ∀ v ∈ as, z_vv cx v) : ∀ v ∈ (.inr (.inl x) :: as : List zV), z_vv cx v := z_vc trivial h
theorem z_v21 (C0 : lw_C cx p s m meth c b xs) : z_vl cx (21, 0, 0) := ⟨by decide +kernel, fun _ => C0.2.2.2.2.2.2.2.2.2.2.2.1⟩
theorem z_v22 (C0 : lw_C cx p s m meth c b xs) : z_vl cx (22, 0, 0) := ⟨by decide +kernel, fun _ => C0.2.2.2.2.2.2.2.2.2.2.2.1⟩
end LAW
