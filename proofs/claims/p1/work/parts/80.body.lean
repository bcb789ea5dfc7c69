/-! ===== the law: one call (printed by wip/p1/gen/p76.py) ===== -/
section LAWD
variable {cx : zX} {p : Program} {l : Launch} {e : Env} {s : State} {m : MethodId} {below : List Frame} {meth : Method} {c : Code} {H : Heap} {locs : List Loc} {cells slots : Nat} {b : Nat} {xs : Nat → Int32} {ls : Array Slot}
theorem lw_body (C0 : lw_C cx p s m meth c b xs) (hS : va_S (z_A cx) s.heap H locs) (hl : lv_has ls 4 (lw_lv cx b 0)) (hP : z_P cx h_0 H) (hc : cells ≤ 600000) (hs : slots ≤ 7302249) : W p l e room_1 s m #[Value.ref b] below meth c H locs cells slots (lw_Z below #[Value.ref b] s) (F0 m 26 ls []) := by
  have hx := C0.1
  have hb := C0.2.1
  have hbA : ¬ z_A cx b := fun z => absurd (show cx.2.2.2.2 ≤ b from z) (by have h1 := C0.2.2.2.2.2.2.1; have h2 := C0.2.2.2.2.2.2.2.1; omega)
  refine lv_aload_n hx hb (show decode code 26 = .ok (.aload_n 0, 1) by decide +kernel) rfl (lv_at hl 0 rfl) ?_
  refine lv_iload_n hx hb (show decode code 27 = .ok (.iload_n 3, 1) by decide +kernel) rfl (lv_at hl 3 rfl) ?_
  refine va_sld hx hb C0.2.2.2.2.2.1 C0.2.2.2.2.2.2.1 hbA hS (vp_in_nI (n := 0) (by decide) (by decide)) (show decode code 28 = .ok (.iaload, 1) by decide +kernel) ?_
  refine lv_bipush hx hb (show decode code 29 = .ok (.bipush 31, 2) by decide +kernel) (v := 31) (by decide +kernel) ?_
  refine lv_iand hx hb (show decode code 31 = .ok (.iand, 1) by decide +kernel) ?_
  generalize xs (nI 0).toNatClampNeg &&& 31 = x
  have hd : decode code 32 = .ok (.tableswitch 856 0 21 #[104, 167, 190, 213, 246, 279, 302, 325, 358, 401, 454, 507, 550, 593, 662, 705, 728, 751, 764, 777, 810, 823], 104) := by decide +kernel
  by_cases hout : x.toInt < 0 ∨ 21 < x.toInt
  · exact lv_tableOut hx hb hd hout (tgt := 888) rfl (lw_out C0 hS hl hc hs)
  · obtain ⟨n, hn⟩ : ∃ n : Nat, x.toInt = (n : Int) := ⟨x.toInt.toNat, by omega⟩
    have h22 : n < 22 := by omega
    refine (fun (ih : ∀ k : Nat, k = n → W p l e room_1 s m #[Value.ref b] below meth c H locs cells slots (lw_Z below #[Value.ref b] s) (F0 m 32 ls [.int x])) => ih n rfl) (fun k hk => ?_)
    match k, hk with
    | 0, hk => exact lv_tableIn hx hb hd (by omega) (by omega) (off := 104) (by rw [hn, ← hk]; rfl) (tgt := 136) rfl (lwc_type C0 hS hl hP hc hs)
    | 1, hk => exact lv_tableIn hx hb hd (by omega) (by omega) (off := 167) (by rw [hn, ← hk]; rfl) (tgt := 199) rfl (lwc_cut C0 hS hl hP hc hs)
    | 2, hk => exact lv_tableIn hx hb hd (by omega) (by omega) (off := 190) (by rw [hn, ← hk]; rfl) (tgt := 222) rfl (lwc_file C0 hS hl hP hc hs)
    | 3, hk => exact lv_tableIn hx hb hd (by omega) (by omega) (off := 213) (by rw [hn, ← hk]; rfl) (tgt := 245) rfl (lwc_byteOf C0 hS hl hP hc hs)
    | 4, hk => exact lv_tableIn hx hb hd (by omega) (by omega) (off := 246) (by rw [hn, ← hk]; rfl) (tgt := 278) rfl (lwc_read C0 hS hl hP hc hs)
    | 5, hk => exact lv_tableIn hx hb hd (by omega) (by omega) (off := 279) (by rw [hn, ← hk]; rfl) (tgt := 311) rfl (lwc_drop C0 hS hl hP hc hs)
    | 6, hk => exact lv_tableIn hx hb hd (by omega) (by omega) (off := 302) (by rw [hn, ← hk]; rfl) (tgt := 334) rfl (lwc_fault C0 hS hl hP hc hs)
    | 7, hk => exact lv_tableIn hx hb hd (by omega) (by omega) (off := 325) (by rw [hn, ← hk]; rfl) (tgt := 357) rfl (lwc_count C0 hS hl hP hc hs)
    | 8, hk => exact lv_tableIn hx hb hd (by omega) (by omega) (off := 358) (by rw [hn, ← hk]; rfl) (tgt := 390) rfl (lwc_operator C0 hS hl hP hc hs)
    | 9, hk => exact lv_tableIn hx hb hd (by omega) (by omega) (off := 401) (by rw [hn, ← hk]; rfl) (tgt := 433) rfl (lwc_letter C0 hS hl hP hc hs)
    | 10, hk => exact lv_tableIn hx hb hd (by omega) (by omega) (off := 454) (by rw [hn, ← hk]; rfl) (tgt := 486) rfl (lwc_input C0 hS hl hP hc hs)
    | 11, hk => exact lv_tableIn hx hb hd (by omega) (by omega) (off := 507) (by rw [hn, ← hk]; rfl) (tgt := 539) rfl (lwc_flow C0 hS hl hP hc hs)
    | 12, hk => exact lv_tableIn hx hb hd (by omega) (by omega) (off := 550) (by rw [hn, ← hk]; rfl) (tgt := 582) rfl (lwc_set C0 hS hl hP hc hs)
    | 13, hk => exact lv_tableIn hx hb hd (by omega) (by omega) (off := 593) (by rw [hn, ← hk]; rfl) (tgt := 625) rfl (lwc_setLetter C0 hS hl hP hc hs)
    | 14, hk => exact lv_tableIn hx hb hd (by omega) (by omega) (off := 662) (by rw [hn, ← hk]; rfl) (tgt := 694) rfl (lwc_loop C0 hS hl hP hc hs)
    | 15, hk => exact lv_tableIn hx hb hd (by omega) (by omega) (off := 705) (by rw [hn, ← hk]; rfl) (tgt := 737) rfl (lwc_print C0 hS hl hP hc hs)
    | 16, hk => exact lv_tableIn hx hb hd (by omega) (by omega) (off := 728) (by rw [hn, ← hk]; rfl) (tgt := 760) rfl (lwc_out C0 hS hl hP hc hs)
    | 17, hk => exact lv_tableIn hx hb hd (by omega) (by omega) (off := 751) (by rw [hn, ← hk]; rfl) (tgt := 783) rfl (lwc_take C0 hS hl hP hc hs)
    | 18, hk => exact lv_tableIn hx hb hd (by omega) (by omega) (off := 764) (by rw [hn, ← hk]; rfl) (tgt := 796) rfl (lwc_differ C0 hS hl hP hc hs)
    | 19, hk => exact lv_tableIn hx hb hd (by omega) (by omega) (off := 777) (by rw [hn, ← hk]; rfl) (tgt := 809) rfl (lwc_difference C0 hS hl hP hc hs)
    | 20, hk => exact lv_tableIn hx hb hd (by omega) (by omega) (off := 810) (by rw [hn, ← hk]; rfl) (tgt := 842) rfl (lwc_numbers C0 hS hl hP hc hs)
    | 21, hk => exact lv_tableIn hx hb hd (by omega) (by omega) (off := 823) (by rw [hn, ← hk]; rfl) (tgt := 855) rfl (lwc_numbered C0 hS hl hP hc hs)
    | k + 22, hk => exact absurd h22 (by omega)
end LAWD
