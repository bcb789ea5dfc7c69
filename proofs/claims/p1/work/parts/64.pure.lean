/-! ===== calls of methods that need no world, while it is being built ===== -/
def z_h0 : zH := (fun _ _ => 0, fun _ _ => 0, fun _ _ => none)
/-- the same, with no world yet: all cells below n are kept -/
def b_cx (cx : zX) (n : Nat) : zX := (cx.1, fun q => if q.1 = 99 then 1 else cx.2.1 q, cx.2.2.1, cx.2.2.2.1, n)
theorem b_cx_off {cx : zX} {n : Nat} : ¬ z_on (b_cx cx n) := by
  show ¬ (if (99 : Nat) = 99 then (1 : Nat) else cx.2.1 (99, 0, 0)) = 0
  rw [if_pos rfl]
  decide
theorem b_C {cx : zX} {n : Nat} {U : State} (hC : z_C cx U) (hn : cx.2.2.2.2 ≤ n) : z_C (b_cx cx n) U := by
  have hA : ∀ q, z_A (b_cx cx n) q → z_A cx q := fun q h => Nat.le_trans hn h
  obtain ⟨h1, h2, h3, h4, h5, h6, h7, h8, h9⟩ := hC
  exact ⟨h1.narrow hA, h2.narrow hA, h3.narrow hA, h4.narrow hA, h5.narrow hA, fun i hi => (h6 i hi).narrow hA, h7, h8, h9⟩
theorem b_Wz {cx : zX} {n : Nat} {s U : State} {H : Heap} {locs : List Loc} (hE : b_E cx s) (hS : va_S (z_A cx) s.heap H locs) (hU : U.heap = H) (hW : s.WarmedH U.vm) (hn : cx.2.2.2.2 ≤ n) : z_W (b_cx cx n) z_h0 U :=
  ⟨⟨fun q hv h10 => absurd (hv.2 h10) b_cx_off, fun q k q' h => by cases h⟩, va_K.moved hW.alike hE.1, b_C (hE.2.1.go hW (fun a h1 h2 => by rw [hU]; exact hS.2.1 a h1 h2)) hn, fun q q' hv h10 => absurd (hv.2 h10) b_cx_off, fun q hv h10 => absurd (hv.2 h10) b_cx_off⟩
section BP
variable {p : Program} {l : Launch} {e : Env} {R : Room} {s : State} {m : MethodId} {args : Array Value} {below : List Frame} {meth : Method} {c : Code} {H : Heap} {locs : List Loc} {cells slots : Nat} {Q : State → Prop}
variable {cd : ByteArray} {pc mL : Nat} {ls : Array Slot} {rest : List Value} {cx : zX} {own : String}
theorem b_pcall {Qk : Option zV → zH → Prop} {a : Array Value} {st0 : List Value} (hr : va_Run p l e R s m args below meth c H locs cells slots 0 0 (F0 m pc ls st0) rest (z_Q (b_cx cx H.size) Qk a) (z_A (b_cx cx H.size))) (hS : va_S (z_A cx) s.heap H locs) (hz : s.heap.size + cells = H.size) (hb0 : cx.2.2.2.2 ≤ s.heap.size)
    (kk : ∀ (r : Option zV) (hh : zH) (locs1 : List Loc), Qk r hh → va_S (z_A cx) s.heap H locs1 → W p l e R s m args below meth c H locs1 cells slots Q (F0 m (pc + 3) ls ((r.map (z_cv (b_cx cx H.size))).toList ++ rest))) : W p l e R s m args below meth c H locs cells slots Q (F0 m pc ls st0) := by
  intro T hT X
  obtain ⟨v, st₀, t, T', L, h0, X', hL, e1, e2, ⟨⟨r, hh, hv, hw, hvv, hq⟩, hz1, hk⟩, st⟩ := hr T hT X
  have hv' : v = r.map (z_cv (b_cx cx H.size)) := by cases hv; rfl
  subst hv'
  rw [h0] at hz1 hk
  have hsz : T'.heap.size = H.size := by
    have h1 := X'.heapSize
    have h2 : T'.heap.size = t.heap.size := by rw [e1]
    omega
  have hH : T'.heap = H := Array.ext_getElem? (fun i => by
    by_cases hi : i < H.size
    · rw [e1]
      exact hk i hi (fun z => absurd (show H.size ≤ i from z) (by omega))
    · rw [Array.getElem?_eq_none (by omega), Array.getElem?_eq_none (by omega)])
  obtain ⟨t2, a1, b1⟩ := kk r hh (locs ++ L) hq ⟨hS.1, hS.2.1, fun q hq => by
      rcases List.mem_append.mp hq with h | h
      · exact hS.2.2 q h
      · have h3 : H.size ≤ q.base := hL q h
        have h4 := hS.1
        show cx.2.2.2.2 ≤ q.base
        omega⟩ T' hH X'
  exact ⟨t2, st t2 a1, b1⟩
/-- a method of the string that the key words stand in -/
theorem b_pV (I : b_In cx cd mL own p s m args meth c) (hS : va_S (z_A cx) s.heap H locs) (hz : s.heap.size + cells = H.size) (hb0 : cx.2.2.2.2 ≤ s.heap.size) {y : Nat} (hy : y < 247) (hns : (z_m y).2.2.2.2.2.1.1 = false) (hcl : (z_m y).1.cls = "java/lang/String") {as : List zV} {v : zV} (hva : ∀ w ∈ (.inr (.inr (0, 0, 0)) :: as : List zV), z_vv (b_cx cx H.size) w) (hM : zOk y (.inr (.inr (0, 0, 0)) :: as) z_h0 (fun r _ => r = some v)) {index : Nat} (hlink : Cond.methodLink own index (z_m y).1 ∈ zTG) (hn : as.length = (z_m y).2.2.2.2.2.1.2) (hR : (z_m y).2.2.2.2.1.2.1 + 1 ≤ R.frames ∧ 8 + ((z_m y).2.2.1 + 11) + (z_m y).2.2.2.2.1.2.2 ≤ R.locals) (hsz : ls.size = mL) {st : List Value} (hst : st = (as.map (z_cv (b_cx cx H.size))).reverse ++ .ref (cx.2.1 (0, 0, 0)) :: rest) (hW : 2 * (F0 m pc ls st).monitorRoom + (rest.map fun v => v.category).sum ≤ 8) (hdg : decode cd pc = .ok (.invokevirtual index, 3)) (hf : cells ≤ R.cells ∧ slots ≤ R.slots)
    (kk : ∀ locs1 : List Loc, va_S (z_A cx) s.heap H locs1 → W p l e R s m args below meth c H locs1 cells slots Q (F0 m (pc + 3) ls (z_cv (b_cx cx H.size) v :: rest))) : W p l e R s m args below meth c H locs cells slots Q (F0 m pc ls st) := by
  obtain ⟨hx, hb, hr, hml, hown, hts, hlk, hin, hE⟩ := I
  obtain ⟨hF1, hF2, -, hF4, -, hF6, hF7, hF8, hF9⟩ := z_mf hy
  have hrec : ∃ cellB : Cell, H[cx.2.1 (0, 0, 0)]? = some cellB ∧ cellB.vm.isStatics = false ∧ s.vm.findClass (z_m y).1.cls = some cellB.cls := by
    rw [hcl]
    exact vk_recv hE.2.1.1 (i := 0) (by decide) hS
  refine b_pcall (cx := cx) (Qk := fun r _ => r = some v) (va_runV (C := (z_m y).1.cls) (As := as.map (z_cv (b_cx cx H.size))) (rest := rest) (b := cx.2.1 (0, 0, 0)) (Ts := zTG) (own := own) (n := (z_m y).2.2.2.2.2.1.2) ⟨hx, hb, hml, hown, hts⟩ (hM (b_cx cx H.size) l hva) ⟨callB_of _ hts (z_ws_in hy) rfl rfl rfl (hts _ hF2) (hts _ hlink) ⟨hF6, hF7, hF8⟩ hR, hts _ (hF4 hns).1, hts _ (hF4 hns).2⟩ ⟨z_W.blind, hrec, fun U hU hW => ⟨rfl, b_Wz hE hS hU hW (Nat.le_trans hb0 hS.1)⟩⟩ rfl (by rw [List.length_map]; exact hn) hsz hst hW hdg hf) hS hz hb0 (fun r hh locs1 hq hS1 => ?_)
  subst hq
  exact kk locs1 hS1
/-- a nest mate's method without a receiver -/
theorem b_pSN (I : b_In cx cd mL own p s m args meth c) (hS : va_S (z_A cx) s.heap H locs) (hz : s.heap.size + cells = H.size) (hb0 : cx.2.2.2.2 ≤ s.heap.size) {y : Nat} (hy : y < 247) (hns : (z_m y).2.2.2.2.2.1.1 = true) {as : List zV} {v : zV} (hva : ∀ w ∈ as, z_vv (b_cx cx H.size) w) (hM : zOk y as z_h0 (fun r _ => r = some v)) {index : Nat} {host : String} (hlink : va_Nw (.methodLinkNest own index (z_m y).1 host) s) (hn : as.length = (z_m y).2.2.2.2.2.1.2) (hR : (z_m y).2.2.2.2.1.2.1 + 1 ≤ R.frames ∧ 8 + ((z_m y).2.2.1 + 11) + (z_m y).2.2.2.2.1.2.2 ≤ R.locals) (hsz : ls.size = mL) {st : List Value} (hst : st = (as.map (z_cv (b_cx cx H.size))).reverse ++ rest) (hW : 2 * (F0 m pc ls st).monitorRoom + (rest.map fun v => v.category).sum ≤ 8) (hdg : decode cd pc = .ok (.invokestatic index, 3)) (hf : cells ≤ R.cells ∧ slots ≤ R.slots)
    (kk : ∀ locs1 : List Loc, va_S (z_A cx) s.heap H locs1 → W p l e R s m args below meth c H locs1 cells slots Q (F0 m (pc + 3) ls (z_cv (b_cx cx H.size) v :: rest))) : W p l e R s m args below meth c H locs cells slots Q (F0 m pc ls st) := by
  obtain ⟨hx, hb, hr, hml, hown, hts, hlk, hin, hE⟩ := I
  obtain ⟨hF1, hF2, hF3, -, -, hF6, hF7, hF8, hF9⟩ := z_mf hy
  refine b_pcall (cx := cx) (Qk := fun r _ => r = some v) (va_runSN (As := as.map (z_cv (b_cx cx H.size))) (rest := rest) (Ts := zTG) (own := own) (n := (z_m y).2.2.2.2.2.1.2) ⟨hx, hb, hml, hown, hts⟩ (hM (b_cx cx H.size) l hva) ⟨va_cnB _ hts (z_ws_in hy) rfl rfl rfl hlink (hts _ hF2) ⟨hF6, hF7, hF8⟩ hR, hts _ (hF3 hns), trivial⟩ ⟨z_W.blind, fun U hU hW => ⟨rfl, b_Wz hE hS hU hW (Nat.le_trans hb0 hS.1)⟩⟩ rfl (by rw [List.length_map]; exact hn) hsz hst hW hdg hf) hS hz hb0 (fun r hh locs1 hq hS1 => ?_)
  subst hq
  exact kk locs1 hS1
/-- rows of longs in building -/
theorem b_lald (hexec : p.tables.exec = Jvm.exec) (hb : c.code = cd) {tys : List (ClassId × FieldType)} (hK : va_K cx.1 zcl tys s) {n : Nat} {f : Nat → va_E} (hB : b_W cx n f H) {q0 t N : Nat} {cA : ClassId} {g : Nat → Int64} (hq : q0 < n) (ha : f q0 = .inl (cA, N, .inr (.inl g))) (ht : tys[t]? = some (cA, .long)) {i : Int32} (hin : vp_in i N) (hdg : decode cd pc = .ok (.laload, 1))
    (kk : W p l e R s m args below meth c H locs cells slots Q (F0 m (pc + 1) ls (.long (g i.toNatClampNeg) :: rest))) : W p l e R s m args below meth c H locs cells slots Q (F0 m pc ls (.int i :: .ref (b_a cx q0) :: rest)) := by
  have hat := hB.2 q0 hq
  rw [ha] at hat
  have hlt : i.toNatClampNeg < N := Nat.not_le.mp fun q => hin (Or.inr q)
  refine W.lald hexec hb (v := .long (g i.toNatClampNeg)) hat ((hK.2 t _ ht).1 N (fun j => .long (g j))) (fun q => by cases q) (by show ¬ (i < 0 ∨ (arrV _ _ _).slots.size ≤ _); rw [arrV_size]; exact hin) ?_ rfl rfl hdg kk
  show (arrV cA N (fun j => .long (g j))).slots[i.toNatClampNeg]? = _
  exact arrV_read cA (fun j => .long (g j)) hlt
theorem b_last (hexec : p.tables.exec = Jvm.exec) (hb : c.code = cd) {tys : List (ClassId × FieldType)} (hK : va_K cx.1 zcl tys s) {n : Nat} {f : Nat → va_E} {H0 : Heap} (hB : b_W cx n f H) (hS : va_S (z_A cx) H0 H locs) {q0 t N : Nat} {cA : ClassId} {g : Nat → Int64} (hq : q0 < n) (ha : f q0 = .inl (cA, N, .inr (.inl g))) (ht : tys[t]? = some (cA, .long)) {i : Int32} {x : Int64} (hin : vp_in i N) (hdg : decode cd pc = .ok (.lastore, 1))
    (kk : ∀ (H1 : Heap) (locs1 : List Loc), b_W cx n (b_up f q0 (.inl (cA, N, .inr (.inl (vp_updL g i.toNatClampNeg x))))) H1 → va_S (z_A cx) H0 H1 locs1 → W p l e R s m args below meth c H1 locs1 cells slots Q (F0 m (pc + 1) ls rest)) : W p l e R s m args below meth c H locs cells slots Q (F0 m pc ls (.long x :: .int i :: .ref (b_a cx q0) :: rest)) := by
  have hat := hB.2 q0 hq
  rw [ha] at hat
  refine W.last hexec hb hat ((hK.2 t _ ht).1 N (fun j => .long (g j))) (fun q => by cases q) (by show ¬ (i < 0 ∨ (arrV _ _ _).slots.size ≤ _); rw [arrV_size]; exact hin) rfl rfl hdg fun H1 e z oq => ?_
  refine kk H1 _ (hB.put z oq ?_) (hS.put z oq (Nat.le_add_right _ _))
  show H1[b_a cx q0]? = some (vp_cell _ _)
  rw [e]
  rw [vp_cell_l, vp_cell_l, arrV_store]
  congr 2
  funext q
  by_cases hq : q = i.toNatClampNeg
  · subst hq
    simp [updV, vp_updL]
  · simp [updV, vp_updL, hq]
end BP
/-! ===== what these methods answer ===== -/
section PURE
variable {h : zH} {K : Int32 → zH → Prop}
theorem p_length (k : K (nI 100) h) : zOkI m_T_length [.inr (.inr (0, 0, 0))] h K := by
  refine o_T_length (o_T_coder ⟨fun a => absurd a (by decide), fun _ => ⟨rfl, g_T_length_9 ?_⟩⟩)
  rw [show (Int32.ofNat (z_ln (1, 0, 0)) >>> ((0 : Int32) &&& 31)) = nI 100 by decide +kernel]
  exact k
theorem w_char : ∀ i, i < 100 → (w_byte i).toUInt32.toUInt16.toUInt32.toInt32 = w_byte i := by decide +kernel
theorem w_ln : z_ln (1, 0, 0) = 100 := by decide +kernel
theorem p_charAt {i : Nat} (hi : i < 100) (k : K (w_byte i) h) : zOkI m_T_charAt [.inr (.inr (0, 0, 0)), .inl (nI i)] h K := by
  have hc : narrow .char (.int (w_byte i)) = .int (w_byte i) := by
    show Value.int _ = Value.int _
    rw [w_char i hi]
  refine o_T_charAt (o_T_isLatin1 ⟨fun a => absurd a (by decide), fun _ => ⟨fun _ => ⟨Or.inr rfl, g_T_charAt_4 ⟨fun a => absurd a (by decide), fun _ => ?_⟩⟩, fun a => absurd rfl a⟩⟩)
  refine o_T1_charAt (o_T_checkIndex (o_T2_checkIndex ⟨fun a => absurd a (nI_pos (by omega)), fun _ => ⟨fun _ => g_T_checkIndex_8 (g_T1_charAt_6 ?_), fun a => absurd ?_ a⟩⟩))
  · rw [nI_clamp (by omega)]
    exact ⟨by rw [w_ln]; exact vp_in_nI hi (by decide), hc, g_T_charAt_15 ⟨hc, k⟩⟩
  · rw [w_ln]
    exact nI_lt hi (by decide)
theorem p_longer {K : Int64 → zH → Prop} {x : Int64} {b : Int32} (k : K (w_long x b) h) : zOkL m_J_longerName [.inr (.inl x), .inl b] h K := by
  unfold w_long at k
  refine o_J_longerName (s_J_isDigit (g_J_longerName_9 ⟨fun a => ?_, fun a => ?_⟩))
  · rw [if_neg (zb0.mp a)] at k
    exact k
  · rw [if_pos (zb1.mp a)] at k
    exact k
end PURE
