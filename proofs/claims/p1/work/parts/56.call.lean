/-! ===== constructors: calls ===== -/
theorem b_B.blind {cx : zX} {as : List Value} {u : Nat × (Nat → va_E)} : FrameBlind (va_Pc as (b_B cx u)) := by
  intro a U g mk hp
  obtain ⟨h1, hB, hK, hC, hO⟩ := hp
  exact ⟨h1, hB, hK, hC, hO⟩
theorem b_ws_in {y : MethodName} {cd : ByteArray} {mL : Nat} (h : Cond.code y cd mL none ∈ zTG) : GoodIn zTG (Cond.code y cd mL none :: zTG) := fun w hw => by
  cases hw with
  | head => exact ⟨h, zTG_good h⟩
  | tail _ hw => exact zTG_in w hw
section BC
variable {p : Program} {l : Launch} {e : Env} {R : Room} {s : State} {m : MethodId} {args : Array Value} {below : List Frame} {meth : Method} {c : Code} {H : Heap} {locs : List Loc} {cells slots : Nat} {Q : State → Prop}
variable {cd : ByteArray} {pc mL : Nat} {ls : Array Slot} {rest : List Value} {cx : zX} {n : Nat} {f : Nat → va_E} {own : String}
variable {y : MethodName} {cd' : ByteArray} {mL' fr lo mc ms index b : Nat} {As : List Value} {u : Nat × (Nat → va_E)}
theorem b_call (I : b_In cx cd mL own p s m args meth c) (hM : bOk y cd' mL' fr lo mc ms cx (.ref b :: As) n f u) (hB : b_W cx n f H) (hS : va_S (z_A cx) s.heap H locs) (hlink : Cond.methodLink own index y ∈ zTG) (hcode : Cond.code y cd' mL' none ∈ zTG) (hini : Cond.initialized y.cls ∈ zTG) (hinst : Cond.instanceMethod y ∈ zTG) (hyn : y.name = "<init>")
    (hd : y.cls ≠ "java/lang/invoke/MethodHandle" ∧ y.cls ≠ "java/lang/invoke/VarHandle" ∧ (parseMethodDescriptor y.desc).map (fun d => d.parameters.length) = some As.length) (hR : fr + 1 ≤ R.frames ∧ 8 + (mL' + 11) + lo ≤ R.locals) (hsz : ls.size = mL) (hW : 2 * (F0 m pc ls (As.reverse ++ .ref b :: rest)).monitorRoom + (rest.map fun v => v.category).sum ≤ 8) (hdg : decode cd pc = .ok (.invokespecial index, 3)) (hf : cells + mc ≤ R.cells ∧ slots + ms ≤ R.slots)
    (kk : ∀ (H1 : Heap) (locs1 : List Loc), b_W cx u.1 u.2 H1 → va_S (z_A cx) s.heap H1 locs1 → W p l e R s m args below meth c H1 locs1 (cells + mc) (slots + ms) Q (F0 m (pc + 3) ls rest)) : W p l e R s m args below meth c H locs cells slots Q (F0 m pc ls (As.reverse ++ .ref b :: rest)) := by
  obtain ⟨hx, hb, hr, hml, hown, hts, hlk, hin, hE⟩ := I
  refine va_callv (va_runI (As := As) (rest := rest) (b := b) (Ts := zTG) (own := own) (n := As.length) ⟨hx, hb, hml, hown, hts⟩ (hM l) ⟨callB_of _ hts (b_ws_in hcode) rfl rfl rfl (hts _ hini) (hts _ hlink) hd hR, hyn, hts _ hinst⟩ ⟨b_B.blind, fun U hU hWm => ⟨rfl, by rw [hU]; exact hB, hE.go hS hU hWm⟩⟩ rfl rfl hsz rfl hW hdg hf) hS (fun q _ h => h) (fun q h => h) (fun v t H1 locs1 ht hvm hv hBt hz hk hS1 => ?_)
  subst hv
  exact kk H1 locs1 (by rw [← ht]; exact hBt.1) hS1
theorem b_callN (I : b_In cx cd mL own p s m args meth c) (hM : bOk y cd' mL' fr lo mc ms cx (.ref b :: As) n f u) (hB : b_W cx n f H) (hS : va_S (z_A cx) s.heap H locs) {host : String} (hlink : va_Nw (.methodLinkNest own index y host) s) (hcode : Cond.code y cd' mL' none ∈ zTG) (hini : Cond.initialized y.cls ∈ zTG) (hinst : Cond.instanceMethod y ∈ zTG) (hyn : y.name = "<init>")
    (hd : y.cls ≠ "java/lang/invoke/MethodHandle" ∧ y.cls ≠ "java/lang/invoke/VarHandle" ∧ (parseMethodDescriptor y.desc).map (fun d => d.parameters.length) = some As.length) (hR : fr + 1 ≤ R.frames ∧ 8 + (mL' + 11) + lo ≤ R.locals) (hsz : ls.size = mL) (hW : 2 * (F0 m pc ls (As.reverse ++ .ref b :: rest)).monitorRoom + (rest.map fun v => v.category).sum ≤ 8) (hdg : decode cd pc = .ok (.invokespecial index, 3)) (hf : cells + mc ≤ R.cells ∧ slots + ms ≤ R.slots)
    (kk : ∀ (H1 : Heap) (locs1 : List Loc), b_W cx u.1 u.2 H1 → va_S (z_A cx) s.heap H1 locs1 → W p l e R s m args below meth c H1 locs1 (cells + mc) (slots + ms) Q (F0 m (pc + 3) ls rest)) : W p l e R s m args below meth c H locs cells slots Q (F0 m pc ls (As.reverse ++ .ref b :: rest)) := by
  obtain ⟨hx, hb, hr, hml, hown, hts, hlk, hin, hE⟩ := I
  refine va_callv (va_runIN (As := As) (rest := rest) (b := b) (Ts := zTG) (own := own) (n := As.length) ⟨hx, hb, hml, hown, hts⟩ (hM l) ⟨va_cnB _ hts (b_ws_in hcode) rfl rfl rfl hlink (hts _ hini) hd hR, hyn, hts _ hinst⟩ ⟨b_B.blind, fun U hU hWm => ⟨rfl, by rw [hU]; exact hB, hE.go hS hU hWm⟩⟩ rfl rfl hsz rfl hW hdg hf) hS (fun q _ h => h) (fun q h => h) (fun v t H1 locs1 ht hvm hv hBt hz hk hS1 => ?_)
  subst hv
  exact kk H1 locs1 (by rw [← ht]; exact hBt.1) hS1
end BC
