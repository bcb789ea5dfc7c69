/-! ===== while the world is being built: its cells lie side by side ===== -/
abbrev b_a (cx : zX) (k : Nat) : Nat := cx.2.2.2.2 + k
/-- n cells are there, from the world's first address on, and cell k is f k -/
def b_W (cx : zX) (n : Nat) (f : Nat → va_E) (H : Heap) : Prop := H.size = b_a cx n ∧ ∀ k, k < n → va_at cx.1 zcl (b_a cx k, f k) H
def b_up (f : Nat → va_E) (k : Nat) (x : va_E) : Nat → va_E := fun j => if j = k then x else f j
theorem b_up_s {f : Nat → va_E} {k : Nat} {x : va_E} : b_up f k x k = x := if_pos rfl
theorem b_up_n {f : Nat → va_E} {k j : Nat} {x : va_E} (h : j ≠ k) : b_up f k x j = f j := if_neg h
theorem b_W.put {cx : zX} {n : Nat} {f : Nat → va_E} {H H1 : Heap} {k : Nat} {x : va_E} (h : b_W cx n f H) (z : H1.size = H.size) (oq : ∀ q : Nat, q ≠ b_a cx k → H1[q]? = H[q]?) (hx : va_at cx.1 zcl (b_a cx k, x) H1) : b_W cx n (b_up f k x) H1 := by
  refine ⟨z.trans h.1, fun j hj => ?_⟩
  by_cases e : j = k
  · subst e
    rw [b_up_s]
    exact hx
  · rw [b_up_n e]
    exact (h.2 j hj).kept (oq _ (fun z => e (by unfold b_a at z; omega)))
theorem b_W.push {cx : zX} {n : Nat} {f : Nat → va_E} {H H1 : Heap} {x : va_E} (h : b_W cx n f H) (z : H1.size = H.size + 1) (o1 : ∀ q : Nat, q < H.size → H1[q]? = H[q]?) (hx : va_at cx.1 zcl (b_a cx n, x) H1) : b_W cx (n + 1) (b_up f n x) H1 := by
  refine ⟨by rw [z, h.1]; unfold b_a; omega, fun j hj => ?_⟩
  by_cases e : j = n
  · subst e
    rw [b_up_s]
    exact hx
  · rw [b_up_n e]
    exact (h.2 j (by omega)).kept (o1 _ (by rw [h.1]; unfold b_a; omega))
theorem b_S.push {cx : zX} {H0 H H1 : Heap} {locs : List Loc} (hS : va_S (z_A cx) H0 H locs) (z : H1.size = H.size + 1) (o1 : ∀ q : Nat, q < H.size → H1[q]? = H[q]?) : va_S (z_A cx) H0 H1 locs := ⟨Nat.le_trans hS.1 (by omega), fun x h1 h2 => (o1 x (Nat.lt_of_lt_of_le h1 hS.1)).trans (hS.2.1 x h1 h2), hS.2.2⟩
section BROW
variable {p : Program} {l : Launch} {e : Env} {R : Room} {s : State} {m : MethodId} {args : Array Value} {below : List Frame} {meth : Method} {c : Code} {H : Heap} {locs : List Loc} {cells slots : Nat} {Q : State → Prop}
variable {cc : ByteArray} {pc : Nat} {ls : Array Slot} {rest : List Value} {cx : zX} {tys : List (ClassId × FieldType)} {H0 : Heap} {n : Nat} {f : Nat → va_E} {own : String}
theorem b_words {ar : Array Value} {s : State} (hts : ∀ w ∈ zTG, w.before ar s = true) : ∀ w ∈ zTG, w.before ar s = true := hts
/-- a field of a cell, final or not, within a constructor of its class -/
theorem b_put (hexec : p.tables.exec = Jvm.exec) (hb : c.code = cc) (hts : ∀ w ∈ zTG, w.before args s = true) (hown : s.vm.findClass own = some m.cls) (hK : va_K cx.1 zcl tys s) (hB : b_W cx n f H) (hS : va_S (z_A cx) H0 H locs) {q0 ci : Nat} {fs : List Value} {r : vw_C} (hq : q0 < n) (he : f q0 = .inr (ci, fs)) (hc : zcl[ci]? = some r) (k : Nat) (hk : k < r.2.2) {index : Nat}
    (hlink : Cond.fieldLink own index (r.2.1 k).1 (r.2.1 k).2.1 (r.2.1 k).2.2.1 ∈ zTG) (hfin : (r.2.1 k).2.2.2 = false ∨ (meth.name = "<init>" ∧ (r.2.1 k).1 = own)) {ty : FieldType} {v : Value} (hd : parseFieldDescriptor (r.2.1 k).2.2.1 = some ty) (hn : narrow ty v = v) (hfit : fits ty v = true) (hl : k < fs.length) (hdg : decode cc pc = .ok (.putfield index, 3))
    (kk : ∀ (H1 : Heap) (locs1 : List Loc), b_W cx n (b_up f q0 (.inr (ci, fs.set k v))) H1 → va_S (z_A cx) H0 H1 locs1 → W p l e R s m args below meth c H1 locs1 cells slots Q (F0 m (pc + 3) ls rest)) : W p l e R s m args below meth c H locs cells slots Q (F0 m pc ls (v :: .ref (b_a cx q0) :: rest)) := by
  obtain ⟨ty0, hty, hnm⟩ := z_tynm hc
  obtain ⟨C, T, N⟩ := r
  have hin := zcl_words hc
  have hap := va_apart (own := own) hts hin ty0 hty hnm hK hc
  have hat := hB.2 q0 hq
  rw [he] at hat
  obtain ⟨r, h1, cell, q1, q2, q3, q4⟩ := hat
  have hr : r = (C, T, N) := Option.some.inj (h1.symm.trans hc)
  subst hr
  obtain ⟨hSl, hfc, kC, hkC, hkind⟩ := hK.1 ci _ hc
  obtain ⟨cf, kf, fi, fl, hi, hsl⟩ := hSl k hk
  have hlay := hts _ (hin _ (u_in_lay hk))
  have hst := (u_facts hfc hkC (u_lays hts hin hk) hi).1
  have hA : z_A cx (b_a cx q0) := Nat.le_add_right _ _
  cases hf : (T k).2.2.2 with
  | false =>
    unfold u_lay at hlay
    rw [if_neg (by rw [hf]; decide)] at hlay
    have h6 := u_store hfc hkC hkind hlay hi hd hn hfit
    refine W.putK hexec hb (f := fl) ⟨hown, hts _ hlink, ⟨_, _, _, hi⟩, hst⟩ (by rw [q2]; exact h6) q1 q3 (by rw [hsl]; exact k2_hasslot (q4 k hk)) rfl rfl hdg fun H' e1 e2 e3 => ?_
    rw [hsl] at e1 ⊢
    exact kk H' _ (hB.put e2 e3 ⟨_, hc, t_OB.to (V := updV (vp_V fs) k v) ⟨_, e1, q2, q3, t_set q4 hap hk v⟩ (fun j _ => vp_updV_set hl v j)⟩) (hS.put e2 e3 hA)
  | true =>
    rcases hfin with hfin | ⟨hin2, hdecl⟩
    · exact absurd (hf.symm.trans hfin) (by decide)
    unfold u_lay at hlay
    rw [if_pos hf] at hlay
    have hcf : m.cls = cf := by
      obtain ⟨_, _, c', _, _, _, -, -, hf', -, -, -, hown2, -⟩ := Cond.laysFinal_spec hlay
      have e1 : c' = cf := by have := hi.symm.trans hf'; simp at this; exact this.1.symm
      rw [show (T k).1 = own from hdecl] at hown2
      rw [← e1]; exact Option.some.inj (hown.symm.trans hown2)
    have h6 := u_fits hfc hkC hkind (Or.inr hlay) hi hd hn hfit
    refine W.putFinK hexec hb hown (hts _ hlink) hi hst hcf hin2 (by rw [q2]; exact h6) q1 q3 (by rw [hsl]; exact k2_hasslot (q4 k hk)) rfl rfl hdg fun H' e1 e2 e3 => ?_
    rw [hsl] at e1 ⊢
    exact kk H' _ (hB.put e2 e3 ⟨_, hc, t_OB.to (V := updV (vp_V fs) k v) ⟨_, e1, q2, q3, t_set q4 hap hk v⟩ (fun j _ => vp_updV_set hl v j)⟩) (hS.put e2 e3 hA)
/-- a field is read -/
theorem b_get (hexec : p.tables.exec = Jvm.exec) (hb : c.code = cc) (hts : ∀ w ∈ zTG, w.before args s = true) (hown : s.vm.findClass own = some m.cls) (hK : va_K cx.1 zcl tys s) (hB : b_W cx n f H) {q0 ci : Nat} {fs : List Value} {r : vw_C} (hq : q0 < n) (he : f q0 = .inr (ci, fs)) (hc : zcl[ci]? = some r) (k : Nat) (hk : k < r.2.2) {index : Nat}
    (hlink : Cond.fieldLink own index (r.2.1 k).1 (r.2.1 k).2.1 (r.2.1 k).2.2.1 ∈ zTG) {v : Value} (hv : fs[k]? = some v) (hdg : decode cc pc = .ok (.getfield index, 3))
    (kk : W p l e R s m args below meth c H locs cells slots Q (F0 m (pc + 3) ls (v :: rest))) : W p l e R s m args below meth c H locs cells slots Q (F0 m pc ls (.ref (b_a cx q0) :: rest)) := by
  obtain ⟨C, T, N⟩ := r
  have hat := hB.2 q0 hq
  rw [he] at hat
  exact va_get hexec hb hts (zcl_words hc) hown hK (ws := [(b_a cx q0, .inr (ci, fs))]) (fun j x hx => by
    match j, hx with
    | 0, hx => cases hx; exact hat
    | j + 1, hx => simp at hx) 0 rfl hc k hk (hts _ hlink) (fun x h => h) hv hdg kk
/-- an object is made -/
theorem b_new (hexec : p.tables.exec = Jvm.exec) (hb : c.code = cc) (hts : ∀ w ∈ zTG, w.before args s = true) (hown : s.vm.findClass own = some m.cls) (hK : va_K cx.1 zcl tys s) (hB : b_W cx n f H) (hS : va_S (z_A cx) H0 H locs) {ci : Nat} {r : vw_C} (hc : zcl[ci]? = some r) {index : Nat} {fs : List Value} {ty : Nat → FieldType}
    (hcl : Cond.classLink own index r.1 ∈ zTG) (hinst : Cond.instantiable r.1 r.2.2 ∈ zTG) (hini : Cond.initialized r.1 ∈ zTG) (hty : ∀ k, k < r.2.2 → parseFieldDescriptor (r.2.1 k).2.2.1 = some (ty k)) (hfs : ∀ j, j < r.2.2 → defaultValue (ty j) = vp_V fs j) (hcells : cells + 1 ≤ R.cells) (hslots : slots + r.2.2 ≤ R.slots) (hdg : decode cc pc = .ok (.new index, 3))
    (kk : ∀ (H1 : Heap), b_W cx (n + 1) (b_up f n (.inr (ci, fs))) H1 → va_S (z_A cx) H0 H1 locs → W p l e R s m args below meth c H1 locs (cells + 1) (slots + r.2.2) Q (F0 m (pc + 3) ls (.ref (b_a cx n) :: rest))) : W p l e R s m args below meth c H locs cells slots Q (F0 m pc ls rest) := by
  obtain ⟨C, T, N⟩ := r
  have hKn := hK.1 ci _ hc
  refine W.newcK hexec hb hown (hts _ hcl) (hts _ hinst) (hts _ hini) rfl hdg hcells hslots hKn.2.1 hB.1 fun H1 kC hkC e1 z1 o1 => ?_
  have z2 : H1.size = H.size + 1 := by rw [z1, hB.1]
  have o2 : ∀ q : Nat, q < H.size → H1[q]? = H[q]? := fun q hq => o1 q (by rw [← hB.1]; exact hq)
  exact kk H1 (hB.push z2 o2 ⟨_, hc, (u_born ty hts (zcl_words hc) hKn hkC e1 hty).to hfs⟩) (b_S.push hS z2 o2)
/-- a row of numbers is made -/
theorem b_newa (hexec : p.tables.exec = Jvm.exec) (hb : c.code = cc) (hts : ∀ w ∈ zTG, w.before args s = true) (hK : va_K cx.1 zcl tys s) (hB : b_W cx n f H) (hS : va_S (z_A cx) H0 H locs) {atype : ArrayType} (harr : Cond.arrayClass (newarray.typeOf atype) ∈ zTG) {t : Nat} {cA : ClassId} (ht : tys[t]? = some (cA, newarray.typeOf atype)) (hno : ∀ C, newarray.typeOf atype ≠ .object C)
    {x : Int32} {N' : Nat} {a0 : vp_A} (ha : ∀ cA : ClassId, vp_cell cA a0 = arrV cA N' (fun _ => defaultValue (newarray.typeOf atype))) (hn : ¬ x < 0) (hN : x.toNatClampNeg = N') (hbytes : N' * componentBytes (newarray.typeOf atype) ≤ 536870912) (hcells : cells + 1 ≤ R.cells) (hslots : slots + N' ≤ R.slots) (hdg : decode cc pc = .ok (.newarray atype, 2))
    (kk : ∀ (H1 : Heap), b_W cx (n + 1) (b_up f n (.inl (cA, a0))) H1 → va_S (z_A cx) H0 H1 locs → W p l e R s m args below meth c H1 locs (cells + 1) (slots + N') Q (F0 m (pc + 2) ls (.ref (b_a cx n) :: rest))) : W p l e R s m args below meth c H locs cells slots Q (F0 m pc ls (.int x :: rest)) := by
  refine va_newaK hexec hb (hts _ harr) rfl hdg rfl hn hN hbytes hcells hslots hB.1 fun H1 cA' e1 z1 o1 hAr hNm => ?_
  have z2 : H1.size = H.size + 1 := by rw [z1, hB.1]
  have o2 : ∀ q : Nat, q < H.size → H1[q]? = H[q]? := fun q hq => o1 q (by rw [← hB.1]; exact hq)
  have hcA : cA' = cA := by
    have h := (hK.2 t _ ht).2
    unfold va_RA at h
    split at h
    · next C hC => exact absurd hC (hno C)
    · exact Option.some.inj (hNm.symm.trans h)
  subst hcA
  refine kk H1 (hB.push z2 o2 ?_) (b_S.push hS z2 o2)
  show H1[b_a cx n]? = some (vp_cell _ _)
  rw [ha]
  exact e1
/-- a row of cells is made -/
theorem b_newq (hexec : p.tables.exec = Jvm.exec) (hb : c.code = cc) (hts : ∀ w ∈ zTG, w.before args s = true) (hown : s.vm.findClass own = some m.cls) (hK : va_K cx.1 zcl tys s) (hB : b_W cx n f H) (hS : va_S (z_A cx) H0 H locs) {C : String} {index : Nat} (hcl : Cond.classLink own index C ∈ zTG) (hover : va_AO C s) {t : Nat} {cA : ClassId} (ht : tys[t]? = some (cA, .object C))
    {x : Int32} {N' : Nat} (hn : ¬ x < 0) (hN : x.toNatClampNeg = N') (hbytes : N' * 4 ≤ 536870912) (hcells : cells + 1 ≤ R.cells) (hslots : slots + N' ≤ R.slots) (hdg : decode cc pc = .ok (.anewarray index, 3))
    (kk : ∀ (H1 : Heap), b_W cx (n + 1) (b_up f n (.inl (cA, N', .inr (.inr (.inr (.inr (fun _ => none))))))) H1 → va_S (z_A cx) H0 H1 locs → W p l e R s m args below meth c H1 locs (cells + 1) (slots + N') Q (F0 m (pc + 3) ls (.ref (b_a cx n) :: rest))) : W p l e R s m args below meth c H locs cells slots Q (F0 m pc ls (.int x :: rest)) := by
  subst hN
  refine W.anew hexec hb hown (hts _ hcl) (va_AO.use hover) rfl hdg rfl hn hbytes hcells hslots fun cA' kA comp f1 f2 f3 f4 => ?_
  obtain ⟨-, kA2, comp2, g1, g2, g3, g4⟩ := hK.2 t _ ht
  have hcA : cA' = cA := Option.some.inj (f1.symm.trans g4)
  subst hcA
  generalize hH1 : H.push ({ cls := cA', slots := Array.replicate x.toNatClampNeg .null, vm := .none } : Cell) = H1
  have z1 : H1.size = H.size + 1 := by rw [← hH1, Array.size_push]
  have e1 : H1[H.size]? = some (arrV cA' x.toNatClampNeg (fun _ => .null)) := by rw [← hH1, Array.getElem?_push_size, ← arrV_new]
  have o1 : ∀ q : Nat, q < H.size → H1[q]? = H[q]? := fun q hq => by rw [← hH1, Array.getElem?_push, if_neg (Nat.ne_of_lt hq)]
  rw [hB.1] at e1 ⊢
  refine kk H1 (hB.push z1 o1 ?_) (b_S.push hS z1 o1)
  show H1[b_a cx n]? = some (vp_cell _ _)
  rw [vp_cell_q]
  exact e1
/-- a cell goes into a row of cells -/
theorem b_aast (hexec : p.tables.exec = Jvm.exec) (hb : c.code = cc) (hK : va_K cx.1 zcl tys s) (hB : b_W cx n f H) (hS : va_S (z_A cx) H0 H locs) {q0 qv t ci N : Nat} {cA : ClassId} {r : vw_C} {g : Nat → Option Nat} {vs : List Value} (hq : q0 < n) (hqv : qv < n) (ha : f q0 = .inl (cA, N, .inr (.inr (.inr (.inr g))))) (ht : tys[t]? = some (cA, .object r.1)) (hv : f qv = .inr (ci, vs)) (hc : zcl[ci]? = some r) {i : Int32} (hin : vp_in i N) (hdg : decode cc pc = .ok (.aastore, 1))
    (kk : ∀ (H1 : Heap) (locs1 : List Loc), b_W cx n (b_up f q0 (.inl (cA, N, .inr (.inr (.inr (.inr (va_up g i.toNatClampNeg (some (b_a cx qv))))))))) H1 → va_S (z_A cx) H0 H1 locs1 → W p l e R s m args below meth c H1 locs1 cells slots Q (F0 m (pc + 1) ls rest)) : W p l e R s m args below meth c H locs cells slots Q (F0 m pc ls (.ref (b_a cx qv) :: .int i :: .ref (b_a cx q0) :: rest)) := by
  have hlt : i.toNatClampNeg < N := Nat.not_le.mp fun q => hin (Or.inr q)
  have h0 : ¬ i < 0 := fun q => hin (Or.inl q)
  have hat := hB.2 q0 hq
  rw [ha] at hat
  have hav := hB.2 qv hqv
  rw [hv] at hav
  obtain ⟨r', hr', cellV, g1, g2, g3, -⟩ := hav
  have hcls := (hK.1 ci r hc).2
  obtain ⟨kA, comp, k1, k2, k3, -⟩ := (hK.2 t _ ht).2
  have hcomp : comp = cx.1.1 ci := Option.some.inj (k3.symm.trans hcls.1)
  subst hcomp
  obtain ⟨kC, hkC, -⟩ := hcls.2
  refine W.aast hexec hb hat (fun q h => by cases h) (fun h => by cases h) k1 k2 rfl hkC ⟨h0, by show _ < (arrV _ _ _).slots.size; rw [arrV_size]; exact hlt⟩ g1 (fun q h => by rw [g3] at h; cases h) (by rw [g2]; exact hkC) (by rw [g2]; exact va_assign hcls) rfl rfl hdg fun H1 e z oq => ?_
  refine kk H1 _ (hB.put z oq ?_) (hS.put z oq (Nat.le_add_right _ _))
  show H1[b_a cx q0]? = some (vp_cell _ _)
  rw [e]
  rw [vp_cell_q, vp_cell_q, arrV_store]
  congr 2
  funext q
  by_cases hq : q = i.toNatClampNeg
  · subst hq
    simp [va_up, va_rf, updV]
  · simp [va_up, hq, updV]
end BROW
