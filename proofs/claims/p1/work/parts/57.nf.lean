/-! ===== constructors: rows over the normal form ===== -/
section NF
variable {p : Program} {l : Launch} {e : Env} {R : Room} {s : State} {m : MethodId} {args : Array Value} {below : List Frame} {meth : Method} {c : Code} {H : Heap} {locs : List Loc} {cells slots : Nat} {Q : State → Prop}
variable {cd : ByteArray} {pc mL : Nat} {ls : Array Slot} {rest : List Value} {cx : zX} {n N k t : Nat} {f g : Nat → va_E} {own : String} {as : List va_E} {c0 : va_E}
theorem n_put (I : b_In cx cd mL own p s m args meth c) (hS : va_S (z_A cx) s.heap H locs) {ci : Nat} {fs : List Value} {r : vw_C} (hB : b_W cx N (b_up g t (.inr (ci, fs))) H) (ht : t < N) (hc : zcl[ci]? = some r) (k : Nat) (hk : k < r.2.2) {index : Nat}
    (hlink : Cond.fieldLink own index (r.2.1 k).1 (r.2.1 k).2.1 (r.2.1 k).2.2.1 ∈ zTG) (hfin : (r.2.1 k).1 = own) {ty : FieldType} {v : Value} (hd : parseFieldDescriptor (r.2.1 k).2.2.1 = some ty) (hn : narrow ty v = v) (hfit : fits ty v = true) (hl : k < fs.length) (hdg : decode cd pc = .ok (.putfield index, 3)) {fs' : List Value} (hfs : fs.set k v = fs')
    (kk : ∀ (H1 : Heap) (locs1 : List Loc), b_W cx N (b_up g t (.inr (ci, fs'))) H1 → va_S (z_A cx) s.heap H1 locs1 → W p l e R s m args below meth c H1 locs1 cells slots Q (F0 m (pc + 3) ls rest)) : W p l e R s m args below meth c H locs cells slots Q (F0 m pc ls (v :: .ref (b_a cx t) :: rest)) := by
  obtain ⟨hx, hb, hr, hml, hown, hts, hlk, hin, hE⟩ := I
  subst hfs
  exact b_put hx hb hts hown hE.1 hB hS ht b_up_s hc k hk hlink (Or.inr ⟨hin, hfin⟩) hd hn hfit hl hdg (fun H1 locs1 h1 h2 => kk H1 locs1 (by rw [b_upup] at h1; exact h1) h2)
theorem n_get (I : b_In cx cd mL own p s m args meth c) {ci : Nat} {fs : List Value} {r : vw_C} (hB : b_W cx N (b_up g t (.inr (ci, fs))) H) (ht : t < N) (hc : zcl[ci]? = some r) (k : Nat) (hk : k < r.2.2) {index : Nat}
    (hlink : Cond.fieldLink own index (r.2.1 k).1 (r.2.1 k).2.1 (r.2.1 k).2.2.1 ∈ zTG) {v : Value} (hv : fs[k]? = some v) (hdg : decode cd pc = .ok (.getfield index, 3))
    (kk : W p l e R s m args below meth c H locs cells slots Q (F0 m (pc + 3) ls (v :: rest))) : W p l e R s m args below meth c H locs cells slots Q (F0 m pc ls (.ref (b_a cx t) :: rest)) := by
  obtain ⟨hx, hb, hr, hml, hown, hts, hlk, hin, hE⟩ := I
  exact b_get hx hb hts hown hE.1 hB ht b_up_s hc k hk hlink hv hdg kk
theorem n_newa (I : b_In cx cd mL own p s m args meth c) (hS : va_S (z_A cx) s.heap H locs) (hB : b_W cx (n + k) (b_up (b_cat n f as) t c0) H) (ht : t < n) (hk : as.length = k) {atype : ArrayType} (harr : Cond.arrayClass (newarray.typeOf atype) ∈ zTG) {tt : Nat} (htt : (z_tys cx)[tt]? = some (cx.2.2.1 tt, newarray.typeOf atype)) (hno : ∀ C, newarray.typeOf atype ≠ .object C)
    {x : Int32} {N' : Nat} {a0 : vp_A} (ha : ∀ cA : ClassId, vp_cell cA a0 = arrV cA N' (fun _ => defaultValue (newarray.typeOf atype))) (hn : ¬ x < 0) (hN : x.toNatClampNeg = N') (hbytes : N' * componentBytes (newarray.typeOf atype) ≤ 536870912) (hcells : cells + 1 ≤ R.cells) (hslots : slots + N' ≤ R.slots) (hdg : decode cd pc = .ok (.newarray atype, 2))
    (kk : ∀ (H1 : Heap), b_W cx (n + (k + 1)) (b_up (b_cat n f (as ++ [.inl (cx.2.2.1 tt, a0)])) t c0) H1 → va_S (z_A cx) s.heap H1 locs → W p l e R s m args below meth c H1 locs (cells + 1) (slots + N') Q (F0 m (pc + 2) ls (.ref (b_a cx (n + k)) :: rest))) : W p l e R s m args below meth c H locs cells slots Q (F0 m pc ls (.int x :: rest)) := by
  obtain ⟨hx, hb, hr, hml, hown, hts, hlk, hin, hE⟩ := I
  exact b_newa hx hb hts hE.1 hB hS harr htt hno ha hn hN hbytes hcells hslots hdg (fun H1 h1 h2 => kk H1 (b_W.catPush ht hk h1) h2)
theorem n_newq (I : b_In cx cd mL own p s m args meth c) (hS : va_S (z_A cx) s.heap H locs) (hB : b_W cx (n + k) (b_up (b_cat n f as) t c0) H) (ht : t < n) (hk : as.length = k) {C : String} {index : Nat} (hcl : Cond.classLink own index C ∈ zTG) (hC : C ∈ [RX0, RX4, RX7, RX3, RX8, RX2]) {tt : Nat} (htt : (z_tys cx)[tt]? = some (cx.2.2.1 tt, .object C))
    {x : Int32} {N' : Nat} (hn : ¬ x < 0) (hN : x.toNatClampNeg = N') (hbytes : N' * 4 ≤ 536870912) (hcells : cells + 1 ≤ R.cells) (hslots : slots + N' ≤ R.slots) (hdg : decode cd pc = .ok (.anewarray index, 3))
    (kk : ∀ (H1 : Heap), b_W cx (n + (k + 1)) (b_up (b_cat n f (as ++ [.inl (cx.2.2.1 tt, N', .inr (.inr (.inr (.inr (fun _ => none)))))])) t c0) H1 → va_S (z_A cx) s.heap H1 locs → W p l e R s m args below meth c H1 locs (cells + 1) (slots + N') Q (F0 m (pc + 3) ls (.ref (b_a cx (n + k)) :: rest))) : W p l e R s m args below meth c H locs cells slots Q (F0 m pc ls (.int x :: rest)) := by
  obtain ⟨hx, hb, hr, hml, hown, hts, hlk, hin, hE⟩ := I
  exact b_newq hx hb hts hown hE.1 hB hS hcl (hE.2.2.1 C hC) htt hn hN hbytes hcells hslots hdg (fun H1 h1 h2 => kk H1 (b_W.catPush ht hk h1) h2)
theorem n_new (I : b_In cx cd mL own p s m args meth c) (hS : va_S (z_A cx) s.heap H locs) (hB : b_W cx (n + k) (b_up (b_cat n f as) t c0) H) (ht : t < n) (hk : as.length = k) {ci : Nat} {r : vw_C} (hc : zcl[ci]? = some r) {index : Nat} {fs : List Value} {ty : Nat → FieldType}
    (hcl : Cond.classLink own index r.1 ∈ zTG) (hinst : Cond.instantiable r.1 r.2.2 ∈ zTG) (hini : Cond.initialized r.1 ∈ zTG) (hty : ∀ k, k < r.2.2 → parseFieldDescriptor (r.2.1 k).2.2.1 = some (ty k)) (hfs : ∀ j, j < r.2.2 → defaultValue (ty j) = vp_V fs j) (hcells : cells + 1 ≤ R.cells) (hslots : slots + r.2.2 ≤ R.slots) (hdg : decode cd pc = .ok (.new index, 3))
    (kk : ∀ (H1 : Heap), b_W cx (n + (k + 1)) (b_up (b_cat n f (as ++ [.inr (ci, fs)])) t c0) H1 → va_S (z_A cx) s.heap H1 locs → W p l e R s m args below meth c H1 locs (cells + 1) (slots + r.2.2) Q (F0 m (pc + 3) ls (.ref (b_a cx (n + k)) :: rest))) : W p l e R s m args below meth c H locs cells slots Q (F0 m pc ls rest) := by
  obtain ⟨hx, hb, hr, hml, hown, hts, hlk, hin, hE⟩ := I
  exact b_new hx hb hts hown hE.1 hB hS hc hcl hinst hini hty hfs hcells hslots hdg (fun H1 h1 h2 => kk H1 (b_W.catPush ht hk h1) h2)
/-- a cell of the list goes into a row of the list -/
theorem n_aast (I : b_In cx cd mL own p s m args meth c) (hS : va_S (z_A cx) s.heap H locs) (hB : b_W cx (n + k) (b_up (b_cat n f as) t c0) H) (ht : t < n) (hk : as.length = k) {i0 iv tt ci N' : Nat} {r : vw_C} {g : Nat → Option Nat} {vs : List Value} (h0 : as[i0]? = some (.inl (cx.2.2.1 tt, N', .inr (.inr (.inr (.inr g)))))) (htt : (z_tys cx)[tt]? = some (cx.2.2.1 tt, .object r.1)) (hv : as[iv]? = some (.inr (ci, vs))) (hc : zcl[ci]? = some r) {i : Int32} (hin : vp_in i N') (hdg : decode cd pc = .ok (.aastore, 1))
    (kk : ∀ (H1 : Heap) (locs1 : List Loc), b_W cx (n + k) (b_up (b_cat n f (as.set i0 (.inl (cx.2.2.1 tt, N', .inr (.inr (.inr (.inr (va_up g i.toNatClampNeg (some (b_a cx (n + iv))))))))))) t c0) H1 → va_S (z_A cx) s.heap H1 locs1 → W p l e R s m args below meth c H1 locs1 cells slots Q (F0 m (pc + 1) ls rest)) : W p l e R s m args below meth c H locs cells slots Q (F0 m pc ls (.ref (b_a cx (n + iv)) :: .int i :: .ref (b_a cx (n + i0)) :: rest)) := by
  obtain ⟨hx, hb, hr, hml, hown, hts, hlk, hin2, hE⟩ := I
  have l0 := (List.getElem?_eq_some_iff.mp h0).1
  have lv := (List.getElem?_eq_some_iff.mp hv).1
  refine b_aast (vs := vs) hx hb hE.1 hB hS (q0 := n + i0) (qv := n + iv) (by omega) (by omega) ?_ htt ?_ hc hin hdg (fun H1 locs1 h1 h2 => kk H1 locs1 (by rw [b_cat_set ht l0] at h1; exact h1) h2)
  · rw [b_up_n (by omega), b_cat_hi]
    simp [List.getD, h0]
  · rw [b_up_n (by omega), b_cat_hi]
    simp [List.getD, hv]
end NF
