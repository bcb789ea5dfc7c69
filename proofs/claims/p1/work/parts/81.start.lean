/-! ===== the law: its beginning ===== -/
section START
variable {p : Program} {l : Launch} {e : Env} {R : Room} {s : State} {m : MethodId} {args : Array Value} {below : List Frame} {meth : Method} {c : Code} {H : Heap} {locs : List Loc} {cells slots : Nat} {Q : State → Prop}
variable {cd : ByteArray} {pc mL : Nat} {ls : Array Slot} {rest : List Value} {cx : zX} {n : Nat} {f : Nat → va_E} {own : String}
variable {y : MethodName} {cd' : ByteArray} {mL' fr lo mc ms index b : Nat} {As : List Value} {u : Nat × (Nat → va_E)}
/-- a constructor is called, from any method -/
theorem b_callG (hx : p.tables.exec = Jvm.exec) (hb : c.code = cd) (hml : c.maxLocals = mL) (hown : s.vm.findClass own = some m.cls) (hts : ∀ w ∈ zTG, w.before args s = true) (hE : b_E cx s) (hM : bOk y cd' mL' fr lo mc ms cx (.ref b :: As) n f u) (hB : b_W cx n f H) (hS : va_S (z_A cx) s.heap H locs) (hlink : Cond.methodLink own index y ∈ zTG) (hcode : Cond.code y cd' mL' none ∈ zTG) (hini : Cond.initialized y.cls ∈ zTG) (hinst : Cond.instanceMethod y ∈ zTG) (hyn : y.name = "<init>")
    (hd : y.cls ≠ "java/lang/invoke/MethodHandle" ∧ y.cls ≠ "java/lang/invoke/VarHandle" ∧ (parseMethodDescriptor y.desc).map (fun d => d.parameters.length) = some As.length) (hR : fr + 1 ≤ R.frames ∧ 8 + (mL' + 11) + lo ≤ R.locals) (hsz : ls.size = mL) (hW : 2 * (F0 m pc ls (As.reverse ++ .ref b :: rest)).monitorRoom + (rest.map fun v => v.category).sum ≤ 8) (hdg : decode cd pc = .ok (.invokespecial index, 3)) (hf : cells + mc ≤ R.cells ∧ slots + ms ≤ R.slots)
    (kk : ∀ (H1 : Heap) (locs1 : List Loc), b_W cx u.1 u.2 H1 → va_S (z_A cx) s.heap H1 locs1 → W p l e R s m args below meth c H1 locs1 (cells + mc) (slots + ms) Q (F0 m (pc + 3) ls rest)) : W p l e R s m args below meth c H locs cells slots Q (F0 m pc ls (As.reverse ++ .ref b :: rest)) := by
  refine va_callv (va_runI (As := As) (rest := rest) (b := b) (Ts := zTG) (own := own) (n := As.length) ⟨hx, hb, hml, hown, hts⟩ (hM l) ⟨callB_of _ hts (b_ws_in hcode) rfl rfl rfl (hts _ hini) (hts _ hlink) hd hR, hyn, hts _ hinst⟩ ⟨b_B.blind, fun U hU hWm => ⟨rfl, by rw [hU]; exact hB, hE.go hS hU hWm⟩⟩ rfl rfl hsz rfl hW hdg hf) hS (fun q _ h => h) (fun q h => h) (fun v t H1 locs1 ht hvm hv hBt hz hk hS1 => ?_)
  subst hv
  exact kk H1 locs1 (by rw [← ht]; exact hBt.1) hS1
end START
theorem k_aoB : ([RX0, RX4, RX7, RX3, RX8, RX2].all fun C => decide (Cond.arrayOver (.object C) ∈ lw_tbl)) = true := by decide +kernel
theorem k_nestB : (k_nest.all fun q => decide (Cond.methodLinkNest q.1 q.2.1 q.2.2 RX11 ∈ lw_tbl)) = true := by decide +kernel
theorem lw_go {p : Program} {l : Launch} {e : Env} {s : State} {m : MethodId} {below : List Frame} {meth : Method} {c : Code} {b L : Nat} {xs : Nat → Int32} {ls : Array Slot} {cx : zX} (hL : L ≤ 5) (C0 : lw_At p s m meth c b L xs) (hbase : cx.2.2.2.2 = s.heap.size) (had : w_ad cx) (hon : z_on cx) (hE : b_E cx s) (hl : lv_has ls 4 [(0, .ref b)]) : W p l e room_1 s m #[Value.ref b] below meth c s.heap [] 0 0 (lw_Z below #[Value.ref b] s) (F0 m 0 ls []) := by
  obtain ⟨hx, hb, hr, hml, hown, hts, hX, hbl, hlk, hgv⟩ := C0
  have hz : ∀ w ∈ zTG, w.before #[Value.ref b] s = true := fun w hw => hts w (List.mem_filter.mp hw).1
  have hbA : ¬ z_A cx b := fun z => absurd (show cx.2.2.2.2 ≤ b from z) (by omega)
  have hB : b_W cx 0 (fun _ => .inr (0, [])) s.heap := ⟨by show s.heap.size = cx.2.2.2.2 + 0; omega, fun k hk => absurd hk (Nat.not_lt_zero k)⟩
  have hS : va_S (z_A cx) s.heap s.heap [] := va_S.rf
  refine b_new hx hb hz hown hE.1 hB hS (ci := 11) rfl (index := 7) (fs := b_df 11) (ty := tyX11) (zw (by decide +kernel) rfl) (zw (by decide +kernel) rfl) (zw (by decide +kernel) rfl) tyX11_ok d11fs (Nat.le_of_ble_eq_true rfl) (Nat.le_of_ble_eq_true rfl) (show decode code 0 = .ok (.new 7, 3) by decide +kernel) (fun H hB hS => ?_)
  have hB : b_W cx 1 (b_up (fun _ => .inr (0, [])) 0 (.inr (11, b_df 11))) H := hB
  refine lv_dup hx hb (show decode code 3 = .ok (.dup, 1) by decide +kernel) rfl ?_
  refine b_callG (As := []) (rest := [.ref (b_a cx 0)]) hx hb hml hown hz hE (d_JobText (cx := cx) 1 0 _ b_up_s (by decide)) hB hS (index := 9) (zw (by decide +kernel) rfl) (zw (by decide +kernel) rfl) (zw (by decide +kernel) rfl) (zw (by decide +kernel) rfl) rfl ⟨by decide, by decide, by decide +kernel⟩ ⟨(Nat.le_of_ble_eq_true rfl), (Nat.le_of_ble_eq_true rfl)⟩ hl.1 (Nat.le_of_ble_eq_true rfl) (show decode code 4 = .ok (.invokespecial 9, 3) by decide +kernel) ⟨(Nat.le_of_ble_eq_true rfl), (Nat.le_of_ble_eq_true rfl)⟩ (fun H locs hB hS => ?_)
  have hB : b_W cx 1489 (b_up (b_cat 1 (b_up (fun _ => .inr (0, [])) 0 (.inr (11, b_df 11))) ((T_JobText 1).map (den cx))) 0 (den cx (dO 11 (F_JobText 1)))) H := by
    have e1 : 1 + (T_JobText 1).length = 1489 := by rw [T_JobText_len]
    rw [← e1]
    exact hB
  refine lv_astore_n hx hb (show decode code 7 = .ok (.astore_n 1, 1) by decide +kernel) rfl hl (by decide) (lv' := [(1, .ref (b_a cx 0)), (0, .ref b)]) rfl (fun ls hl => ?_)
  refine b_new hx hb hz hown hE.1 hB hS (ci := 12) rfl (index := 10) (fs := b_df 12) (ty := tyX12) (zw (by decide +kernel) rfl) (zw (by decide +kernel) rfl) (zw (by decide +kernel) rfl) tyX12_ok d12fs (Nat.le_of_ble_eq_true rfl) (Nat.le_of_ble_eq_true rfl) (show decode code 8 = .ok (.new 10, 3) by decide +kernel) (fun H hB hS => ?_)
  refine lv_dup hx hb (show decode code 11 = .ok (.dup, 1) by decide +kernel) rfl ?_
  refine b_callG (As := []) (rest := [.ref (b_a cx 1489)]) hx hb hml hown hz hE (d_Model (cx := cx) 1490 1489 _ b_up_s (by decide)) hB hS (index := 12) (zw (by decide +kernel) rfl) (zw (by decide +kernel) rfl) (zw (by decide +kernel) rfl) (zw (by decide +kernel) rfl) rfl ⟨by decide, by decide, by decide +kernel⟩ ⟨(Nat.le_of_ble_eq_true rfl), (Nat.le_of_ble_eq_true rfl)⟩ hl.1 (Nat.le_of_ble_eq_true rfl) (show decode code 12 = .ok (.invokespecial 12, 3) by decide +kernel) ⟨(Nat.le_of_ble_eq_true rfl), (Nat.le_of_ble_eq_true rfl)⟩ (fun H locs hB hS => ?_)
  refine lv_astore_n hx hb (show decode code 15 = .ok (.astore_n 2, 1) by decide +kernel) rfl hl (by decide) (lv' := [(2, .ref (b_a cx 1489)), (1, .ref (b_a cx 0)), (0, .ref b)]) rfl (fun ls hl => ?_)
  refine lv_iconst hx hb (show decode code 16 = .ok (.iconst 0, 1) by decide +kernel) (v := nI 0) (by decide +kernel) ?_
  refine lv_istore_n hx hb (show decode code 17 = .ok (.istore_n 3, 1) by decide +kernel) rfl hl (by decide) (lv' := [(3, .int (nI 0)), (2, .ref (b_a cx 1489)), (1, .ref (b_a cx 0)), (0, .ref b)]) rfl (fun ls hl => ?_)
  have hP : z_P cx h_0 H := w_P had hon (fun k hk x hx => by
    have h1 := hB.2 k (by show k < 1490 + (T_Model 1490).length; rw [T_Model_len]; omega)
    have h2 := w_fin (cx := cx) (g0 := b_up (fun _ => .inr (0, [])) 0 (.inr (11, b_df 11))) (X := .inr (12, b_df 12)) hx
    rw [← h2]
    exact h1)
  have a1 : cx.2.1 (21, 0, 0) = b_a cx 0 := had (21, 0, 0) (by decide) (by decide)
  have a2 : cx.2.1 (22, 0, 0) = b_a cx 1489 := had (22, 0, 0) (by decide) (by decide)
  have hl : lv_has ls 4 (lw_lv cx b 0) := by
    rw [lw_lv, a1, a2]
    exact lv_sub hl [3, 2, 1, 0] rfl
  refine lv_iload_n hx hb (show decode code 18 = .ok (.iload_n 3, 1) by decide +kernel) rfl (lv_at hl 3 rfl) ?_
  refine lv_aload_n hx hb (show decode code 19 = .ok (.aload_n 0, 1) by decide +kernel) rfl (lv_at hl 0 rfl) ?_
  refine va_slen hx hb hX hbl hbA hS (show decode code 20 = .ok (.arraylength, 1) by decide +kernel) ?_
  refine lv_iconst hx hb (show decode code 21 = .ok (.iconst 5, 1) by decide +kernel) (v := 5) (by decide +kernel) ?_
  refine lv_isub hx hb (show decode code 22 = .ok (.isub, 1) by decide +kernel) ?_
  refine lv_icmp_gt hx hb (show decode code 23 = .ok (.if_icmp .gt 871, 3) by decide +kernel) (tgt := 894) rfl (fun _ => ?_) (fun hge => ?_)
  · refine lv_iconst hx hb (show decode code 894 = .ok (.iconst 1, 1) by decide +kernel) (v := 1) (by decide +kernel) ?_
    refine va_forget (fun q hq => ?_) ?_
    · have h1 : cx.2.2.2.2 ≤ q.base := hS.2.2 q hq
      omega
    refine W.widen (k := 600000) (n := 7302249) (Nat.le_of_ble_eq_true rfl) (Nat.le_of_ble_eq_true rfl) ?_
    exact lw_ret hx hb hr hlk (show decode code 895 = .ok (.ireturn, 1) by decide +kernel)
  · have h5 : L = 5 := by
      have h6 : L = 0 ∨ L = 1 ∨ L = 2 ∨ L = 3 ∨ L = 4 ∨ L = 5 := by omega
      rcases h6 with h | h | h | h | h | h
      · subst h; exact absurd (by decide +kernel) hge
      · subst h; exact absurd (by decide +kernel) hge
      · subst h; exact absurd (by decide +kernel) hge
      · subst h; exact absurd (by decide +kernel) hge
      · subst h; exact absurd (by decide +kernel) hge
      · exact h
    subst h5
    exact lw_body ⟨hx, hb, hml, hown, hz, hX, hbl, hbase, hE.1, hE.2.1, w_D had, hon, hr, hlk⟩ hS hl hP (Nat.le_of_ble_eq_true rfl) (Nat.le_of_ble_eq_true rfl)
