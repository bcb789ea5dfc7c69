/-! ===== worlds in building, told in plain numbers ===== -/
/-- a value: (0, x) an int, (1, x) minus an int, (2, x) a long, (3, _) null, (4, k) cell k -/
abbrev dV : Type := Nat × Nat
/-- a cell: (0, c, _, _, _, fields) an object; (t + 1, N, s, d, k, _) an array whose first k elements are the cells s, s + d, .. -/
abbrev dE : Type := Nat × Nat × Nat × Nat × Nat × List dV
def dv (cx : zX) (v : dV) : Value := match v.1 with
  | 0 => .int (nI v.2)
  | 1 => .int (-(nI v.2))
  | 2 => .long (lN v.2)
  | 3 => .null
  | _ => .ref (b_a cx v.2)
def w_byte (i : Nat) : Int32 := (Int32.toUInt32 (((z_sb.getD 0 []).getD i 0) &&& (255 : Int32)) % 65536).toInt32
def w_long (x : Int64) (b : Int32) : Int64 := if (¬ b < 48 ∧ ¬ 57 < b) then x * 37 + Int32.toInt64 ((b - 48) + 27) else x * 37 + Int32.toInt64 ((b - 97) + 1)
/-- the keys behind i letters, and the key's number -/
def w_st : Nat → (Nat → Int64) × Nat
  | 0 => (fun _ => 0, 0)
  | i + 1 => if w_byte i = 32 then ((w_st i).1, (w_st i).2 + 1) else if (w_st i).2 < 21 then (vp_updL (w_st i).1 (w_st i).2 (w_long ((w_st i).1 (w_st i).2) (w_byte i)), (w_st i).2) else w_st i
def w_keys : Nat → Int64 := (w_st 100).1
def d_ct (cx : zX) (t s d k : Nat) : (Nat → Int32) ⊕ (Nat → Int64) ⊕ (Nat → UInt32) ⊕ (Nat → UInt64) ⊕ (Nat → Option Nat) := match t with
  | 0 => .inl (fun _ => 0)
  | 1 => .inr (.inl (match d with
    | 0 => fun _ => 0
    | _ => w_keys))
  | 2 => .inl (fun _ => 0)
  | 3 => .inl (fun _ => 0)
  | _ => .inr (.inr (.inr (.inr (b_rf cx s d k))))
def den (cx : zX) (x : dE) : va_E := match x.1 with
  | 0 => .inr (x.2.1, x.2.2.2.2.2.map (dv cx))
  | t + 1 => .inl (cx.2.2.1 t, x.2.1, d_ct cx t x.2.2.1 x.2.2.2.1 x.2.2.2.2.1)
abbrev dO (c : Nat) (fs : List dV) : dE := (0, c, 0, 0, 0, fs)
abbrev dA (t N : Nat) : dE := (t + 1, N, 0, 0, 0, [])
abbrev dQ (t N s d k : Nat) : dE := (t + 1, N, s, d, k, [])
/-- a new object's fields -/
def d_df (c : Nat) : List dV := (List.range (z_nf c)).map (fun k => match z_tc (c + 10) k with
  | 0 => (0, 0)
  | 5 => (0, 0)
  | 1 => (2, 0)
  | _ => (3, 0))
theorem d_df_dv {cx : zX} {c : Nat} : (d_df c).map (dv cx) = b_df c := by
  unfold d_df b_df
  rw [List.map_map]
  refine List.map_congr_left (fun k _ => ?_)
  show dv cx (match z_tc (c + 10) k with
    | 0 => (0, 0)
    | 5 => (0, 0)
    | 1 => (2, 0)
    | _ => (3, 0)) = _
  match z_tc (c + 10) k with
  | 0 => rfl
  | 1 => rfl
  | 2 => rfl
  | 3 => rfl
  | 4 => rfl
  | 5 => rfl
  | n + 6 => rfl
theorem d_df_den {cx : zX} {c : Nat} : den cx (dO c (d_df c)) = .inr (c, b_df c) := by
  show (Sum.inr (c, (d_df c).map (dv cx)) : va_E) = _
  rw [d_df_dv]
theorem d_df_len {c : Nat} : (d_df c).length = z_nf c := by simp [d_df]
theorem b_df_lenz {c : Nat} : (b_df c).length = z_nf c := by simp [b_df]
/-- D: the new cells, X: the object's own fields -/
def x_W (cx : zX) (n t : Nat) (f : Nat → va_E) (D : List dE) (ci : Nat) (X : List dV) (H : Heap) : Prop := b_W cx (n + D.length) (b_up (b_cat n f (D.map (den cx))) t (den cx (dO ci X))) H
/-- a constructor's contract: T n the cells that it makes from n on, F n its own fields -/
def dOk (y : MethodName) (cd : ByteArray) (mL fr lo mc ms : Nat) (cx : zX) (As : List Value) (ci : Nat) (T : Nat → List dE) (F : Nat → List dV) : Prop := ∀ (n t : Nat) (f : Nat → va_E), f t = .inr (ci, b_df ci) → t < n → bOk y cd mL fr lo mc ms cx (.ref (b_a cx t) :: As) n f (n + (T n).length, b_up (b_cat n f ((T n).map (den cx))) t (den cx (dO ci (F n))))
theorem x_W0 {cx : zX} {n t ci : Nat} {f : Nat → va_E} {H : Heap} (h : b_W cx n f H) (hf : f t = .inr (ci, b_df ci)) : x_W cx n t f [] ci (d_df ci) H := by
  unfold x_W
  rw [d_df_den]
  exact h.cat0 hf
section XR
variable {p : Program} {l : Launch} {e : Env} {R : Room} {s : State} {m : MethodId} {args : Array Value} {below : List Frame} {meth : Method} {c : Code} {H : Heap} {locs : List Loc} {cells slots : Nat} {Q : State → Prop}
variable {cd : ByteArray} {pc mL : Nat} {ls : Array Slot} {rest : List Value} {cx : zX} {n k t ci : Nat} {f : Nat → va_E} {own : String} {D : List dE} {X : List dV}
theorem x_put (I : b_In cx cd mL own p s m args meth c) (hS : va_S (z_A cx) s.heap H locs) {r : vw_C} (hB : x_W cx n t f D ci X H) (ht : t < n) (hc : zcl[ci]? = some r) (k : Nat) (hk : k < r.2.2) {index : Nat}
    (hlink : Cond.fieldLink own index (r.2.1 k).1 (r.2.1 k).2.1 (r.2.1 k).2.2.1 ∈ zTG) (hfin : (r.2.1 k).1 = own) {ty : FieldType} (w : dV) {v : Value} (hw : dv cx w = v) (hd : parseFieldDescriptor (r.2.1 k).2.2.1 = some ty) (hn : narrow ty v = v) (hfit : fits ty v = true) (hl : k < X.length) (hdg : decode cd pc = .ok (.putfield index, 3))
    (kk : ∀ (H1 : Heap) (locs1 : List Loc), x_W cx n t f D ci (X.set k w) H1 → va_S (z_A cx) s.heap H1 locs1 → W p l e R s m args below meth c H1 locs1 cells slots Q (F0 m (pc + 3) ls rest)) : W p l e R s m args below meth c H locs cells slots Q (F0 m pc ls (v :: .ref (b_a cx t) :: rest)) := by
  subst hw
  refine n_put I hS (ci := ci) (fs := X.map (dv cx)) hB (Nat.lt_of_lt_of_le ht (Nat.le_add_right _ _)) hc k hk hlink hfin hd hn hfit (by rw [List.length_map]; exact hl) hdg (fs' := (X.set k w).map (dv cx)) (by rw [List.map_set]) (fun H1 locs1 h1 h2 => kk H1 locs1 h1 h2)
theorem x_get (I : b_In cx cd mL own p s m args meth c) {r : vw_C} (hB : x_W cx n t f D ci X H) (ht : t < n) (hc : zcl[ci]? = some r) (k : Nat) (hk : k < r.2.2) {index : Nat}
    (hlink : Cond.fieldLink own index (r.2.1 k).1 (r.2.1 k).2.1 (r.2.1 k).2.2.1 ∈ zTG) {w : dV} (hw : X[k]? = some w) {v : Value} (hv : dv cx w = v) (hdg : decode cd pc = .ok (.getfield index, 3))
    (kk : W p l e R s m args below meth c H locs cells slots Q (F0 m (pc + 3) ls (v :: rest))) : W p l e R s m args below meth c H locs cells slots Q (F0 m pc ls (.ref (b_a cx t) :: rest)) := by
  subst hv
  exact n_get I (ci := ci) (fs := X.map (dv cx)) hB (Nat.lt_of_lt_of_le ht (Nat.le_add_right _ _)) hc k hk hlink (by rw [List.getElem?_map, hw]; rfl) hdg kk
theorem x_push {x : dE} (hk : D.length = k) (h : b_W cx (n + (k + 1)) (b_up (b_cat n f (D.map (den cx) ++ [den cx x])) t (den cx (dO ci X))) H) : x_W cx n t f (D ++ [x]) ci X H := by
  unfold x_W
  rw [List.length_append, hk, List.map_append]
  exact h
theorem x_pull (hk : D.length = k) (h : x_W cx n t f D ci X H) : b_W cx (n + k) (b_up (b_cat n f (D.map (den cx))) t (den cx (dO ci X))) H := by
  subst hk
  exact h
theorem x_newa (I : b_In cx cd mL own p s m args meth c) (hS : va_S (z_A cx) s.heap H locs) (hB : x_W cx n t f D ci X H) (ht : t < n) (hk : D.length = k) {atype : ArrayType} (harr : Cond.arrayClass (newarray.typeOf atype) ∈ zTG) (tt : Nat) (htt : (z_tys cx)[tt]? = some (cx.2.2.1 tt, newarray.typeOf atype)) (hno : ∀ C, newarray.typeOf atype ≠ .object C)
    {x : Int32} (N' : Nat) (ha : ∀ cA : ClassId, vp_cell cA (N', d_ct cx tt 0 0 0) = arrV cA N' (fun _ => defaultValue (newarray.typeOf atype))) (hn : ¬ x < 0) (hN : x.toNatClampNeg = N') (hbytes : N' * componentBytes (newarray.typeOf atype) ≤ 536870912) (hcells : cells + 1 ≤ R.cells) (hslots : slots + N' ≤ R.slots) (hdg : decode cd pc = .ok (.newarray atype, 2))
    (kk : ∀ (H1 : Heap), x_W cx n t f (D ++ [dA tt N']) ci X H1 → va_S (z_A cx) s.heap H1 locs → W p l e R s m args below meth c H1 locs (cells + 1) (slots + N') Q (F0 m (pc + 2) ls (.ref (b_a cx (n + k)) :: rest))) : W p l e R s m args below meth c H locs cells slots Q (F0 m pc ls (.int x :: rest)) :=
  n_newa I hS (x_pull hk hB) ht (by rw [List.length_map]; exact hk) harr htt hno ha hn hN hbytes hcells hslots hdg (fun H1 h1 h2 => kk H1 (x_push (x := dA tt N') hk h1) h2)
theorem x_newq (I : b_In cx cd mL own p s m args meth c) (hS : va_S (z_A cx) s.heap H locs) (hB : x_W cx n t f D ci X H) (ht : t < n) (hk : D.length = k) {C : String} {index : Nat} (hcl : Cond.classLink own index C ∈ zTG) (hC : C ∈ [RX0, RX4, RX7, RX3, RX8, RX2]) (tt : Nat) (htt : (z_tys cx)[tt + 4]? = some (cx.2.2.1 (tt + 4), .object C)) (s0 d0 : Nat)
    {x : Int32} (N' : Nat) (hn : ¬ x < 0) (hN : x.toNatClampNeg = N') (hbytes : N' * 4 ≤ 536870912) (hcells : cells + 1 ≤ R.cells) (hslots : slots + N' ≤ R.slots) (hdg : decode cd pc = .ok (.anewarray index, 3))
    (kk : ∀ (H1 : Heap), x_W cx n t f (D ++ [dQ (tt + 4) N' s0 d0 0]) ci X H1 → va_S (z_A cx) s.heap H1 locs → W p l e R s m args below meth c H1 locs (cells + 1) (slots + N') Q (F0 m (pc + 3) ls (.ref (b_a cx (n + k)) :: rest))) : W p l e R s m args below meth c H locs cells slots Q (F0 m pc ls (.int x :: rest)) :=
  n_newq I hS (x_pull hk hB) ht (by rw [List.length_map]; exact hk) hcl hC htt hn hN hbytes hcells hslots hdg (fun H1 h1 h2 => kk H1 (x_push (x := dQ (tt + 4) N' s0 d0 0) hk (by
    have e : den cx (dQ (tt + 4) N' s0 d0 0) = .inl (cx.2.2.1 (tt + 4), N', .inr (.inr (.inr (.inr (fun _ => none))))) := by
      show (Sum.inl (cx.2.2.1 (tt + 4), N', Sum.inr (.inr (.inr (.inr (b_rf cx s0 d0 0))))) : va_E) = _
      rw [b_rf_0]
    rw [e]
    exact h1)) h2)
theorem x_new (I : b_In cx cd mL own p s m args meth c) (hS : va_S (z_A cx) s.heap H locs) (hB : x_W cx n t f D ci X H) (ht : t < n) (hk : D.length = k) (cj : Nat) {r : vw_C} (hc : zcl[cj]? = some r) {index : Nat} {ty : Nat → FieldType}
    (hcl : Cond.classLink own index r.1 ∈ zTG) (hinst : Cond.instantiable r.1 r.2.2 ∈ zTG) (hini : Cond.initialized r.1 ∈ zTG) (hty : ∀ k, k < r.2.2 → parseFieldDescriptor (r.2.1 k).2.2.1 = some (ty k)) (hfs : ∀ j, j < r.2.2 → defaultValue (ty j) = vp_V (b_df cj) j) (hcells : cells + 1 ≤ R.cells) (hslots : slots + r.2.2 ≤ R.slots) (hdg : decode cd pc = .ok (.new index, 3))
    (kk : ∀ (H1 : Heap), x_W cx n t f (D ++ [dO cj (d_df cj)]) ci X H1 → va_S (z_A cx) s.heap H1 locs → W p l e R s m args below meth c H1 locs (cells + 1) (slots + r.2.2) Q (F0 m (pc + 3) ls (.ref (b_a cx (n + k)) :: rest))) : W p l e R s m args below meth c H locs cells slots Q (F0 m pc ls rest) :=
  n_new I hS (x_pull hk hB) ht (by rw [List.length_map]; exact hk) hc hcl hinst hini hty hfs hcells hslots hdg (fun H1 h1 h2 => kk H1 (x_push (x := dO cj (d_df cj)) hk (by rw [d_df_den]; exact h1)) h2)
/-- a cell goes into a row of cells -/
theorem x_aast (I : b_In cx cd mL own p s m args meth c) (hS : va_S (z_A cx) s.heap H locs) (hB : x_W cx n t f D ci X H) (ht : t < n) {i0 iv tt cj N' s0 d0 j : Nat} {r : vw_C} {vs : List dV} (h0 : D[i0]? = some (dQ (tt + 4) N' s0 d0 j)) (htt : (z_tys cx)[tt + 4]? = some (cx.2.2.1 (tt + 4), .object r.1)) (hv : D[iv]? = some (dO cj vs)) (hc : zcl[cj]? = some r) (hj : j < N') (hN : N' < 2 ^ 31) (ha : n + iv = s0 + d0 * j) (hdg : decode cd pc = .ok (.aastore, 1))
    (kk : ∀ (H1 : Heap) (locs1 : List Loc), x_W cx n t f (D.set i0 (dQ (tt + 4) N' s0 d0 (j + 1))) ci X H1 → va_S (z_A cx) s.heap H1 locs1 → W p l e R s m args below meth c H1 locs1 cells slots Q (F0 m (pc + 1) ls rest)) : W p l e R s m args below meth c H locs cells slots Q (F0 m pc ls (.ref (b_a cx (n + iv)) :: .int (nI j) :: .ref (b_a cx (n + i0)) :: rest)) := by
  refine n_aast I hS hB ht (List.length_map ..) (i0 := i0) (iv := iv) (tt := tt + 4) (ci := cj) (N' := N') (r := r) (g := b_rf cx s0 d0 j) (vs := vs.map (dv cx)) (by rw [List.getElem?_map, h0]; rfl) htt (by rw [List.getElem?_map, hv]; rfl) hc (vp_in_nI hj hN) hdg (fun H1 locs1 h1 h2 => kk H1 locs1 ?_ h2)
  rw [nI_clamp (by omega), b_rf_up ha] at h1
  unfold x_W
  rw [List.length_set, List.map_set]
  exact h1
section XC
variable {y : MethodName} {cd' : ByteArray} {mL' fr lo mc ms index cj : Nat} {As : List Value} {T : Nat → List dE} {F : Nat → List dV}
theorem x_after (ht : t < n) (hk : D.length = k) (h : b_W cx (n + (k + 1) + (T (n + (k + 1))).length) (b_up (b_cat (n + (k + 1)) (b_up (b_cat n f ((D ++ [dO cj (d_df cj)]).map (den cx))) t (den cx (dO ci X))) ((T (n + (k + 1))).map (den cx))) (n + k) (den cx (dO cj (F (n + (k + 1)))))) H) : x_W cx n t f (D ++ dO cj (F (n + (k + 1))) :: T (n + (k + 1))) ci X H := by
  rw [b_cat_call ht (by simp [hk])] at h
  have e : (((D ++ [dO cj (d_df cj)]).map (den cx)).set k (den cx (dO cj (F (n + (k + 1))))) ++ (T (n + (k + 1))).map (den cx)) = (D ++ dO cj (F (n + (k + 1))) :: T (n + (k + 1))).map (den cx) := by
    subst hk
    simp [List.set_append]
  rw [e] at h
  unfold x_W
  rw [List.length_append, List.length_cons, hk]
  rw [show n + (k + 1) + (T (n + (k + 1))).length = n + (k + ((T (n + (k + 1))).length + 1)) by omega] at h
  exact h
theorem x_at (ht : t < n) (hk : D.length = k) : b_up (b_cat n f ((D ++ [dO cj (d_df cj)]).map (den cx))) t (den cx (dO ci X)) (n + k) = .inr (cj, b_df cj) := by
  rw [b_up_n (by omega), b_cat_hi, List.map_append]
  subst hk
  rw [← d_df_den (cx := cx)]
  simp [List.getD]
theorem x_call (I : b_In cx cd mL own p s m args meth c) (hM : dOk y cd' mL' fr lo mc ms cx As cj T F) (hS : va_S (z_A cx) s.heap H locs) (hB : x_W cx n t f (D ++ [dO cj (d_df cj)]) ci X H) (ht : t < n) (hk : D.length = k) (hlink : Cond.methodLink own index y ∈ zTG) (hcode : Cond.code y cd' mL' none ∈ zTG) (hini : Cond.initialized y.cls ∈ zTG) (hinst : Cond.instanceMethod y ∈ zTG) (hyn : y.name = "<init>")
    (hd : y.cls ≠ "java/lang/invoke/MethodHandle" ∧ y.cls ≠ "java/lang/invoke/VarHandle" ∧ (parseMethodDescriptor y.desc).map (fun d => d.parameters.length) = some As.length) (hR : fr + 1 ≤ R.frames ∧ 8 + (mL' + 11) + lo ≤ R.locals) (hsz : ls.size = mL) (hW : 2 * (F0 m pc ls (As.reverse ++ .ref (b_a cx (n + k)) :: rest)).monitorRoom + (rest.map fun v => v.category).sum ≤ 8) (hdg : decode cd pc = .ok (.invokespecial index, 3)) (hf : cells + mc ≤ R.cells ∧ slots + ms ≤ R.slots)
    (kk : ∀ (H1 : Heap) (locs1 : List Loc), x_W cx n t f (D ++ dO cj (F (n + (k + 1))) :: T (n + (k + 1))) ci X H1 → va_S (z_A cx) s.heap H1 locs1 → W p l e R s m args below meth c H1 locs1 (cells + mc) (slots + ms) Q (F0 m (pc + 3) ls rest)) : W p l e R s m args below meth c H locs cells slots Q (F0 m pc ls (As.reverse ++ .ref (b_a cx (n + k)) :: rest)) :=
  b_call I (hM (n + (k + 1)) (n + k) _ (x_at ht hk) (by omega)) (x_pull (by simp [hk]) hB) hS hlink hcode hini hinst hyn hd hR hsz hW hdg hf (fun H1 locs1 h1 h2 => kk H1 locs1 (x_after ht hk h1) h2)
theorem x_callN (I : b_In cx cd mL own p s m args meth c) (hM : dOk y cd' mL' fr lo mc ms cx As cj T F) (hS : va_S (z_A cx) s.heap H locs) (hB : x_W cx n t f (D ++ [dO cj (d_df cj)]) ci X H) (ht : t < n) (hk : D.length = k) {host : String} (hlink : va_Nw (.methodLinkNest own index y host) s) (hcode : Cond.code y cd' mL' none ∈ zTG) (hini : Cond.initialized y.cls ∈ zTG) (hinst : Cond.instanceMethod y ∈ zTG) (hyn : y.name = "<init>")
    (hd : y.cls ≠ "java/lang/invoke/MethodHandle" ∧ y.cls ≠ "java/lang/invoke/VarHandle" ∧ (parseMethodDescriptor y.desc).map (fun d => d.parameters.length) = some As.length) (hR : fr + 1 ≤ R.frames ∧ 8 + (mL' + 11) + lo ≤ R.locals) (hsz : ls.size = mL) (hW : 2 * (F0 m pc ls (As.reverse ++ .ref (b_a cx (n + k)) :: rest)).monitorRoom + (rest.map fun v => v.category).sum ≤ 8) (hdg : decode cd pc = .ok (.invokespecial index, 3)) (hf : cells + mc ≤ R.cells ∧ slots + ms ≤ R.slots)
    (kk : ∀ (H1 : Heap) (locs1 : List Loc), x_W cx n t f (D ++ dO cj (F (n + (k + 1))) :: T (n + (k + 1))) ci X H1 → va_S (z_A cx) s.heap H1 locs1 → W p l e R s m args below meth c H1 locs1 (cells + mc) (slots + ms) Q (F0 m (pc + 3) ls rest)) : W p l e R s m args below meth c H locs cells slots Q (F0 m pc ls (As.reverse ++ .ref (b_a cx (n + k)) :: rest)) :=
  b_callN I (hM (n + (k + 1)) (n + k) _ (x_at ht hk) (by omega)) (x_pull (by simp [hk]) hB) hS hlink hcode hini hinst hyn hd hR hsz hW hdg hf (fun H1 locs1 h1 h2 => kk H1 locs1 (x_after ht hk h1) h2)
end XC
/-- its end -/
theorem x_ret (I : b_In cx cd mL own p s m args meth c) {T : Nat → List dE} {F : Nat → List dV} (hB : x_W cx n t f D ci X H) (hT : D = T n) (hF : X = F n) (hS : va_S (z_A cx) s.heap H locs) {mc ms : Nat} (hc : cells ≤ mc) (hs : slots ≤ ms) (hdg : decode cd pc = .ok (.return_, 1)) :
    W p l e R s m args below meth c H locs cells slots (MQ below (va_Qv (fun v => v = (n + (T n).length, b_up (b_cat n f ((T n).map (den cx))) t (den cx (dO ci (F n))))) (b_B cx) (z_A cx)) args s mc ms (z_A cx)) (F0 m pc ls []) := by
  subst hT hF
  exact b_ret I (u := (_, _)) hB hS hc hs hdg
end XR
/-! ===== rows of new objects ===== -/
def q_ds (pre : List dE) (t N s d : Nat) (cel : Nat → List dE) (j : Nat) : List dE := pre ++ dQ t N s d j :: (List.range j).flatMap cel
theorem q_fl_len {cel : Nat → List dE} {d : Nat} (hc : ∀ i, (cel i).length = d) : ∀ j : Nat, ((List.range j).flatMap cel).length = d * j := by
  intro j
  induction j with
  | zero => simp
  | succ j ih => rw [List.range_succ, List.flatMap_append, List.length_append, ih, Nat.mul_succ]; simp [hc]
theorem q_ds_len {pre : List dE} {P t N s d : Nat} {cel : Nat → List dE} {j : Nat} (hp : pre.length = P) (hc : ∀ i, (cel i).length = d) : (q_ds pre t N s d cel j).length = P + 1 + d * j := by
  unfold q_ds
  rw [List.length_append, List.length_cons, q_fl_len hc, hp]
  omega
theorem q_ds_0 {pre : List dE} {t N s d : Nat} {cel : Nat → List dE} : q_ds pre t N s d cel 0 = pre ++ [dQ t N s d 0] := by simp [q_ds]
theorem q_ds_at {pre zs : List dE} {P t N s d : Nat} {cel : Nat → List dE} {j : Nat} (hp : pre.length = P) : (q_ds pre t N s d cel j ++ zs)[P]? = some (dQ t N s d j) := by
  subst hp
  simp [q_ds]
theorem q_ds_new {pre zs : List dE} {P t N s d : Nat} {cel : Nat → List dE} {j : Nat} {x : dE} (hp : pre.length = P) (hc : ∀ i, (cel i).length = d) : (q_ds pre t N s d cel j ++ x :: zs)[P + 1 + d * j]? = some x := by
  rw [List.getElem?_append_right (by rw [q_ds_len hp hc]; omega), q_ds_len hp hc]
  simp
theorem q_ds_next {pre zs : List dE} {P t N s d : Nat} {cel : Nat → List dE} {j : Nat} {x : dE} (hp : pre.length = P) (hz : cel j = x :: zs) : (q_ds pre t N s d cel j ++ x :: zs).set P (dQ t N s d (j + 1)) = q_ds pre t N s d cel (j + 1) := by
  subst hp
  unfold q_ds
  rw [List.range_succ, List.flatMap_append]
  simp [hz]
theorem b_cs {p : Program} {l : Launch} {e : Env} {R : Room} {s : State} {m : MethodId} {args : Array Value} {below : List Frame} {meth : Method} {c : Code} {H : Heap} {locs : List Loc} {c1 c2 s1 s2 : Nat} {Q : State → Prop} {g : JFrame} (hc : c1 = c2) (hs : s1 = s2) (h : W p l e R s m args below meth c H locs c2 s2 Q g) : W p l e R s m args below meth c H locs c1 s1 Q g := by
  subst hc hs
  exact h
