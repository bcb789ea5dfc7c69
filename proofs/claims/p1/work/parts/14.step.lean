set_option maxHeartbeats 4000000 in
/-- one instruction of a method -/
theorem z_step {y : Nat} (hy : y < 247) {pc len : Nat} {r : Instr} {Q : Option zV → zH → Prop} {nx nc : zL → List zV → zH → Prop} {to : Nat → zL → List zV → zH → Prop} (hd : decode (z_m y).2.1 pc = .ok (r, len)) (hl : z_lenok r len = true) (hr : z_okr y [(pc, z_lk (z_m y).2.2.2.2.1.1 (z_m y).2.2.2.1 pc r)] = true)
    (hnx : ∀ L st h, nx L st h → zAt y (pc + len) L st h Q) (hnc : ∀ L st h, nc L st h → zAt y (pc + len) L st h Q) (hto : ∀ p L st h, to p L st h → zAt y p L st h Q) {L : zL} {st : List zV} {h : zH} (hw : z_ins (z_lk (z_m y).2.2.2.2.1.1 (z_m y).2.2.2.1 pc r) nx nc to Q L st h) : zAt y pc L st h Q := by
  intro hlen cx p l e s m args below meth c H locs ls hE hP hL hS
  have hE' := hE
  obtain ⟨hx, hb, hrt, hml, hown, hts, hlk, hK, hC, hD, hSs⟩ := hE
  have ho := (z_mf hy).2.2.2.2.2.2.2.2
  rw [← ho] at hown
  have go : ∀ {L' : zL} {st' : List zV} {h' : zH}, nx L' st' h' → L'.length = (z_m y).2.2.1 → ∀ {H1 : Heap} {locs1 : List Loc} {ls1 : Array Slot}, va_S (z_A cx) s.heap H1 locs1 → z_P cx h' H1 → z_LR cx L' ls1 → (∀ v ∈ st', z_vv cx v) → W p l e (z_rm y) s m args below meth c H1 locs1 0 0 (MQ below (z_Q cx Q) args s 0 0 (z_A cx)) (F0 m (pc + len) ls1 (st'.map (z_cv cx))) :=
    by intro L' st' h' hn hl' H1 locs1 ls1 hS1 hP1 hL1 hv1; exact hnx _ _ _ hn hl' cx p l e s m args below meth c H1 locs1 ls1 ⟨hE'.1, hE'.2.1, hE'.2.2.1, hE'.2.2.2.1, hE'.2.2.2.2.1, hE'.2.2.2.2.2.1, hE'.2.2.2.2.2.2.1, hE'.2.2.2.2.2.2.2.1, hE'.2.2.2.2.2.2.2.2.1, hE'.2.2.2.2.2.2.2.2.2.1, hS1⟩ hP1 hL1 hv1
  have gc : ∀ {L' : zL} {st' : List zV} {h' : zH}, nc L' st' h' → L'.length = (z_m y).2.2.1 → ∀ {H1 : Heap} {locs1 : List Loc} {ls1 : Array Slot}, va_S (z_A cx) s.heap H1 locs1 → z_P cx h' H1 → z_LR cx L' ls1 → (∀ v ∈ st', z_vv cx v) → W p l e (z_rm y) s m args below meth c H1 locs1 0 0 (MQ below (z_Q cx Q) args s 0 0 (z_A cx)) (F0 m (pc + len) ls1 (st'.map (z_cv cx))) :=
    by intro L' st' h' hn hl' H1 locs1 ls1 hS1 hP1 hL1 hv1; exact hnc _ _ _ hn hl' cx p l e s m args below meth c H1 locs1 ls1 ⟨hE'.1, hE'.2.1, hE'.2.2.1, hE'.2.2.2.1, hE'.2.2.2.2.1, hE'.2.2.2.2.2.1, hE'.2.2.2.2.2.2.1, hE'.2.2.2.2.2.2.2.1, hE'.2.2.2.2.2.2.2.2.1, hE'.2.2.2.2.2.2.2.2.2.1, hS1⟩ hP1 hL1 hv1
  have gt : ∀ {t : Nat} {L' : zL} {st' : List zV} {h' : zH}, to t L' st' h' → L'.length = (z_m y).2.2.1 → z_P cx h' H → z_LR cx L' ls → (∀ v ∈ st', z_vv cx v) → W p l e (z_rm y) s m args below meth c H locs 0 0 (MQ below (z_Q cx Q) args s 0 0 (z_A cx)) (F0 m t ls (st'.map (z_cv cx))) :=
    fun hn hl' hP1 hL1 hv1 => hto _ _ _ _ hn hl' cx p l e s m args below meth c H locs ls hE' hP1 hL1 hv1
  cases r
  all_goals try exact False.elim hw
  case iconst v =>
    cases Nat.eq_of_beq_eq_true hl
    exact lv_iconst hx hb hd (z_lit_eq v).symm (go hw hlen hSs hP hL (z_vc trivial hS))
  case bipush v =>
    cases Nat.eq_of_beq_eq_true hl
    dsimp only [z_lk] at hw
    split at hw
    · rename_i hv
      exact lv_bipush hx hb hd (hv.trans (z_lit_eq v).symm) (go hw hlen hSs hP hL (z_vc trivial hS))
    · exact False.elim hw
  case sipush v =>
    cases Nat.eq_of_beq_eq_true hl
    dsimp only [z_lk] at hw
    split at hw
    · rename_i hv
      exact lv_sipush hx hb hd (hv.trans (z_lit_eq v).symm) (go hw hlen hSs hP hL (z_vc trivial hS))
    · exact False.elim hw
  case lconst n =>
    cases Nat.eq_of_beq_eq_true hl
    refine lv_lconst (v := z_litL (n : Nat)) hx hb hd rfl ?_
    exact go hw hlen hSs hP hL (z_vc trivial hS)
  case iload_n n =>
    cases Nat.eq_of_beq_eq_true hl
    obtain ⟨x, hx1, hw⟩ := z_invGi (P := fun x => nx L (.inl x :: st) h) hw
    exact lv_iload_n hx hb hd rfl (hL.at hx1) (go hw hlen hSs hP hL (z_vc (hL.2 _ _ hx1) hS))
  case lload_n n =>
    cases Nat.eq_of_beq_eq_true hl
    obtain ⟨x, hx1, hw⟩ := z_invGl (P := fun x => nx L (.inr (.inl x) :: st) h) hw
    exact lv_lload_n hx hb hd rfl (hL.at hx1) (go hw hlen hSs hP hL (z_vc (hL.2 _ _ hx1) hS))
  case aload_n n =>
    cases Nat.eq_of_beq_eq_true hl
    obtain ⟨x, hx1, hw⟩ := z_invGa (P := fun x => nx L (.inr (.inr x) :: st) h) hw
    by_cases h3 : x.1 = 3
    · have h1 := hL.at hx1
      have h2 := go hw hlen hSs hP hL (z_vc (hL.2 _ _ hx1) hS)
      rw [List.map_cons] at h2
      cases hf : z_cv cx (.inr (.inr x)) with
      | ref a => rw [hf] at h1 h2; exact lv_aload_n hx hb hd rfl h1 h2
      | null => rw [hf] at h1 h2; exact lv_aload_nN hx hb hd rfl h1 h2
      | _ => exact absurd hf (by unfold z_cv; simp only [h3, if_true]; cases cx.2.2.2.1 <;> simp [va_rf])
    · have h1 := hL.at hx1
      have h2 := go hw hlen hSs hP hL (z_vc (hL.2 _ _ hx1) hS)
      rw [List.map_cons] at h2
      rw [z_cv_r h3] at h1 h2
      exact lv_aload_n hx hb hd rfl h1 h2
  case iload n =>
    cases Nat.eq_of_beq_eq_true hl
    obtain ⟨x, hx1, hw⟩ := z_invGi (P := fun x => nx L (.inl x :: st) h) hw
    exact lv_iload hx hb hd (hL.at hx1) (go hw hlen hSs hP hL (z_vc (hL.2 _ _ hx1) hS))
  case lload n =>
    cases Nat.eq_of_beq_eq_true hl
    obtain ⟨x, hx1, hw⟩ := z_invGl (P := fun x => nx L (.inr (.inl x) :: st) h) hw
    exact lv_lload hx hb hd (hL.at hx1) (go hw hlen hSs hP hL (z_vc (hL.2 _ _ hx1) hS))
  case aload n =>
    cases Nat.eq_of_beq_eq_true hl
    obtain ⟨x, hx1, hw⟩ := z_invGa (P := fun x => nx L (.inr (.inr x) :: st) h) hw
    by_cases h3 : x.1 = 3
    · have h1 := hL.at hx1
      have h2 := go hw hlen hSs hP hL (z_vc (hL.2 _ _ hx1) hS)
      rw [List.map_cons] at h2
      cases hf : z_cv cx (.inr (.inr x)) with
      | ref a => rw [hf] at h1 h2; exact lv_aload hx hb hd h1 h2
      | null => rw [hf] at h1 h2; exact lv_aloadN hx hb hd h1 h2
      | _ => exact absurd hf (by unfold z_cv; simp only [h3, if_true]; cases cx.2.2.2.1 <;> simp [va_rf])
    · have h1 := hL.at hx1
      have h2 := go hw hlen hSs hP hL (z_vc (hL.2 _ _ hx1) hS)
      rw [List.map_cons] at h2
      rw [z_cv_r h3] at h1 h2
      exact lv_aload hx hb hd h1 h2
  case istore_n n =>
    cases Nat.eq_of_beq_eq_true hl
    have hw0 := hw
    clear hw
    obtain ⟨x, r, rfl, hw⟩ := z_invI (P := fun x r => nx (z_s1 L n (.inl x)) r h) hw0
    clear hw0
    have hn := Nat.blt_eq.mp (by simpa [z_okr, z_lk] using hr)
    refine lv_istore_n hx hb hd rfl hL.1 (by rw [hlen]; exact hn) rfl (fun ls' hls => ?_)
    exact go hw (by rw [z_s1_len]; exact hlen) hSs hP (hL.s1 (v := .inl x) trivial hls) (z_vt hS)
  case istore n =>
    cases Nat.eq_of_beq_eq_true hl
    have hw0 := hw
    clear hw
    obtain ⟨x, r, rfl, hw⟩ := z_invI (P := fun x r => nx (z_s1 L n (.inl x)) r h) hw0
    clear hw0
    have hn := Nat.blt_eq.mp (by simpa [z_okr, z_lk] using hr)
    refine lv_istore hx hb hd hL.1 (by rw [hlen]; exact hn) rfl (fun ls' hls => ?_)
    exact go hw (by rw [z_s1_len]; exact hlen) hSs hP (hL.s1 (v := .inl x) trivial hls) (z_vt hS)
  case lstore_n n =>
    cases Nat.eq_of_beq_eq_true hl
    have hw0 := hw
    clear hw
    obtain ⟨x, r, rfl, hw⟩ := z_invL (P := fun x r => nx (z_s2 L n (.inr (.inl x))) r h) hw0
    clear hw0
    have hn := Nat.blt_eq.mp (by simpa [z_okr, z_lk] using hr)
    refine lv_lstore_n hx hb hd rfl hL.1 (by rw [hlen]; exact hn) rfl (fun ls' hls => ?_)
    exact go hw (by rw [z_s2_len]; exact hlen) hSs hP (hL.s2 (v := .inr (.inl x)) trivial hls) (z_vt hS)
  case lstore n =>
    cases Nat.eq_of_beq_eq_true hl
    have hw0 := hw
    clear hw
    obtain ⟨x, r, rfl, hw⟩ := z_invL (P := fun x r => nx (z_s2 L n (.inr (.inl x))) r h) hw0
    clear hw0
    have hn := Nat.blt_eq.mp (by simpa [z_okr, z_lk] using hr)
    refine lv_lstore hx hb hd hL.1 (by rw [hlen]; exact hn) rfl (fun ls' hls => ?_)
    exact go hw (by rw [z_s2_len]; exact hlen) hSs hP (hL.s2 (v := .inr (.inl x)) trivial hls) (z_vt hS)
  case astore_n n =>
    cases Nat.eq_of_beq_eq_true hl
    have hw0 := hw
    clear hw
    obtain ⟨x, r, rfl, hw⟩ := z_invR (P := fun x r => nx (z_s1 L n (.inr (.inr x))) r h) hw0
    clear hw0
    have hn := Nat.blt_eq.mp (by simpa [z_okr, z_lk] using hr)
    have key : ∀ ls' : Array Slot, lv_has ls' L.length (((n : Nat), z_cv cx (.inr (.inr x))) :: (z_al cx L).filter (fun q => !(q.1 == (n : Nat)) && !(q.1 + 1 == (n : Nat) && q.2.category == 2))) → W p l e (z_rm y) s m args below meth c H locs 0 0 (MQ below (z_Q cx Q) args s 0 0 (z_A cx)) (F0 m (pc + 1) ls' (r.map (z_cv cx))) := fun ls' hls => go hw (by rw [z_s1_len]; exact hlen) hSs hP (hL.s1 (v := .inr (.inr x)) (z_vh hS) hls) (z_vt hS)
    rw [List.map_cons]
    cases hf : z_cv cx (.inr (.inr x)) with
    | ref a => rw [hf] at key; exact lv_astore_n hx hb hd rfl hL.1 (by rw [hlen]; exact hn) rfl key
    | null => rw [hf] at key; exact lv_astore_nN hx hb hd rfl hL.1 (by rw [hlen]; exact hn) rfl key
    | _ => exact absurd hf (by unfold z_cv; by_cases h3 : x.1 = 3 <;> simp only [h3, if_true, if_false] <;> (try (cases cx.2.2.2.1 <;> simp [va_rf])) <;> simp)
  case astore n =>
    cases Nat.eq_of_beq_eq_true hl
    have hw0 := hw
    clear hw
    obtain ⟨x, r, rfl, hw⟩ := z_invR (P := fun x r => nx (z_s1 L n (.inr (.inr x))) r h) hw0
    clear hw0
    have hn := Nat.blt_eq.mp (by simpa [z_okr, z_lk] using hr)
    have key : ∀ ls' : Array Slot, lv_has ls' L.length (((n : Nat), z_cv cx (.inr (.inr x))) :: (z_al cx L).filter (fun q => !(q.1 == (n : Nat)) && !(q.1 + 1 == (n : Nat) && q.2.category == 2))) → W p l e (z_rm y) s m args below meth c H locs 0 0 (MQ below (z_Q cx Q) args s 0 0 (z_A cx)) (F0 m (pc + 2) ls' (r.map (z_cv cx))) := fun ls' hls => go hw (by rw [z_s1_len]; exact hlen) hSs hP (hL.s1 (v := .inr (.inr x)) (z_vh hS) hls) (z_vt hS)
    rw [List.map_cons]
    cases hf : z_cv cx (.inr (.inr x)) with
    | ref a => rw [hf] at key; exact lv_astore hx hb hd hL.1 (by rw [hlen]; exact hn) rfl key
    | null => rw [hf] at key; exact lv_astoreN hx hb hd hL.1 (by rw [hlen]; exact hn) rfl key
    | _ => exact absurd hf (by unfold z_cv; by_cases h3 : x.1 = 3 <;> simp only [h3, if_true, if_false] <;> (try (cases cx.2.2.2.1 <;> simp [va_rf])) <;> simp)
  case iinc n v =>
    cases Nat.eq_of_beq_eq_true hl
    obtain ⟨x, hx1, hw⟩ := z_invGi (P := fun x => nx (z_s1 L n (.inl (x + z_lit v))) st h) hw
    have hn := Nat.blt_eq.mp (by simpa [z_okr, z_lk] using hr)
    obtain ⟨k, hk⟩ := List.getElem?_of_mem (z_al_mem (cx := cx) (q := (n, z_cv cx (.inl x))).mpr ⟨.inl x, hx1, rfl⟩)
    refine lv_iinc hx hb hd hL.1 (k := k) hk (congrArg (x + ·) (z_lit_eq v).symm) (by rw [hlen]; exact hn) rfl (fun ls' hls => ?_)
    exact go hw (by rw [z_s1_len]; exact hlen) hSs hP (hL.s1 (v := .inl (x + z_lit v)) trivial hls) hS
  case iadd =>
    cases Nat.eq_of_beq_eq_true hl
    have hw0 := hw
    clear hw
    obtain ⟨b, a, r, rfl, hw⟩ := z_invII (P := fun y x r => nx L (.inl (x + y) :: r) h) hw0
    clear hw0
    exact lv_iadd hx hb hd (go hw hlen hSs hP hL (z_vc trivial (z_vt (z_vt hS))))
  case isub =>
    cases Nat.eq_of_beq_eq_true hl
    have hw0 := hw
    clear hw
    obtain ⟨b, a, r, rfl, hw⟩ := z_invII (P := fun y x r => nx L (.inl (x - y) :: r) h) hw0
    clear hw0
    exact lv_isub hx hb hd (go hw hlen hSs hP hL (z_vc trivial (z_vt (z_vt hS))))
  case imul =>
    cases Nat.eq_of_beq_eq_true hl
    have hw0 := hw
    clear hw
    obtain ⟨b, a, r, rfl, hw⟩ := z_invII (P := fun y x r => nx L (.inl (x * y) :: r) h) hw0
    clear hw0
    exact lv_imul hx hb hd (go hw hlen hSs hP hL (z_vc trivial (z_vt (z_vt hS))))
  case iand =>
    cases Nat.eq_of_beq_eq_true hl
    have hw0 := hw
    clear hw
    obtain ⟨b, a, r, rfl, hw⟩ := z_invII (P := fun y x r => nx L (.inl (x &&& y) :: r) h) hw0
    clear hw0
    exact lv_iand hx hb hd (go hw hlen hSs hP hL (z_vc trivial (z_vt (z_vt hS))))
  case ior =>
    cases Nat.eq_of_beq_eq_true hl
    have hw0 := hw
    clear hw
    obtain ⟨b, a, r, rfl, hw⟩ := z_invII (P := fun y x r => nx L (.inl (x ||| y) :: r) h) hw0
    clear hw0
    exact lv_ior hx hb hd (go hw hlen hSs hP hL (z_vc trivial (z_vt (z_vt hS))))
  case ixor =>
    cases Nat.eq_of_beq_eq_true hl
    have hw0 := hw
    clear hw
    obtain ⟨b, a, r, rfl, hw⟩ := z_invII (P := fun y x r => nx L (.inl (x ^^^ y) :: r) h) hw0
    clear hw0
    exact lv_ixor hx hb hd (go hw hlen hSs hP hL (z_vc trivial (z_vt (z_vt hS))))
  case ishl =>
    cases Nat.eq_of_beq_eq_true hl
    have hw0 := hw
    clear hw
    obtain ⟨b, a, r, rfl, hw⟩ := z_invII (P := fun y x r => nx L (.inl (x <<< (y &&& 31)) :: r) h) hw0
    clear hw0
    exact lv_ishl hx hb hd (go hw hlen hSs hP hL (z_vc trivial (z_vt (z_vt hS))))
  case ishr =>
    cases Nat.eq_of_beq_eq_true hl
    have hw0 := hw
    clear hw
    obtain ⟨b, a, r, rfl, hw⟩ := z_invII (P := fun y x r => nx L (.inl (x >>> (y &&& 31)) :: r) h) hw0
    clear hw0
    exact lv_ishr hx hb hd (go hw hlen hSs hP hL (z_vc trivial (z_vt (z_vt hS))))
  case idiv =>
    cases Nat.eq_of_beq_eq_true hl
    have hw0 := hw
    clear hw
    obtain ⟨b, a, r, rfl, hne, hw⟩ := z_invII (P := fun y x r => (¬ y = 0) ∧ nx L (.inl (x / y) :: r) h) hw0
    clear hw0
    exact lv_idiv hx hb hd hne (go hw hlen hSs hP hL (z_vc trivial (z_vt (z_vt hS))))
  case irem =>
    cases Nat.eq_of_beq_eq_true hl
    have hw0 := hw
    clear hw
    obtain ⟨b, a, r, rfl, hne, hw⟩ := z_invII (P := fun y x r => (¬ y = 0) ∧ nx L (.inl (x - x / y * y) :: r) h) hw0
    clear hw0
    exact lv_irem hx hb hd hne (go hw hlen hSs hP hL (z_vc trivial (z_vt (z_vt hS))))
  case ladd =>
    cases Nat.eq_of_beq_eq_true hl
    have hw0 := hw
    clear hw
    obtain ⟨b, a, r, rfl, hw⟩ := z_invLL (P := fun y x r => nx L (.inr (.inl (x + y)) :: r) h) hw0
    clear hw0
    exact lv_ladd hx hb hd (go hw hlen hSs hP hL (z_vc trivial (z_vt (z_vt hS))))
  case lsub =>
    cases Nat.eq_of_beq_eq_true hl
    have hw0 := hw
    clear hw
    obtain ⟨b, a, r, rfl, hw⟩ := z_invLL (P := fun y x r => nx L (.inr (.inl (x - y)) :: r) h) hw0
    clear hw0
    exact lv_lsub hx hb hd (go hw hlen hSs hP hL (z_vc trivial (z_vt (z_vt hS))))
  case lmul =>
    cases Nat.eq_of_beq_eq_true hl
    have hw0 := hw
    clear hw
    obtain ⟨b, a, r, rfl, hw⟩ := z_invLL (P := fun y x r => nx L (.inr (.inl (x * y)) :: r) h) hw0
    clear hw0
    exact lv_lmul hx hb hd (go hw hlen hSs hP hL (z_vc trivial (z_vt (z_vt hS))))
  case land =>
    cases Nat.eq_of_beq_eq_true hl
    have hw0 := hw
    clear hw
    obtain ⟨b, a, r, rfl, hw⟩ := z_invLL (P := fun y x r => nx L (.inr (.inl (x &&& y)) :: r) h) hw0
    clear hw0
    exact lv_land hx hb hd (go hw hlen hSs hP hL (z_vc trivial (z_vt (z_vt hS))))
  case lor =>
    cases Nat.eq_of_beq_eq_true hl
    have hw0 := hw
    clear hw
    obtain ⟨b, a, r, rfl, hw⟩ := z_invLL (P := fun y x r => nx L (.inr (.inl (x ||| y)) :: r) h) hw0
    clear hw0
    exact lv_lor hx hb hd (go hw hlen hSs hP hL (z_vc trivial (z_vt (z_vt hS))))
  case ldiv =>
    cases Nat.eq_of_beq_eq_true hl
    have hw0 := hw
    clear hw
    obtain ⟨b, a, r, rfl, hne, hw⟩ := z_invLL (P := fun y x r => (¬ y = 0) ∧ nx L (.inr (.inl (x / y)) :: r) h) hw0
    clear hw0
    exact lv_ldiv hx hb hd hne (go hw hlen hSs hP hL (z_vc trivial (z_vt (z_vt hS))))
  case lrem =>
    cases Nat.eq_of_beq_eq_true hl
    have hw0 := hw
    clear hw
    obtain ⟨b, a, r, rfl, hne, hw⟩ := z_invLL (P := fun y x r => (¬ y = 0) ∧ nx L (.inr (.inl (x - x / y * y)) :: r) h) hw0
    clear hw0
    exact lv_lrem hx hb hd hne (go hw hlen hSs hP hL (z_vc trivial (z_vt (z_vt hS))))
  case lshl =>
    cases Nat.eq_of_beq_eq_true hl
    have hw0 := hw
    clear hw
    obtain ⟨b, a, r, rfl, hw⟩ := z_invIL (P := fun y x r => nx L (.inr (.inl (x <<< (y.toInt64 &&& 63))) :: r) h) hw0
    clear hw0
    exact lv_lshl hx hb hd rfl (go hw hlen hSs hP hL (z_vc trivial (z_vt (z_vt hS))))
  case lshr =>
    cases Nat.eq_of_beq_eq_true hl
    have hw0 := hw
    clear hw
    obtain ⟨b, a, r, rfl, hw⟩ := z_invIL (P := fun y x r => nx L (.inr (.inl (x >>> (y.toInt64 &&& 63))) :: r) h) hw0
    clear hw0
    exact lv_lshr hx hb hd rfl (go hw hlen hSs hP hL (z_vc trivial (z_vt (z_vt hS))))
  case lushr =>
    cases Nat.eq_of_beq_eq_true hl
    have hw0 := hw
    clear hw
    obtain ⟨b, a, r, rfl, hw⟩ := z_invIL (P := fun y x r => nx L (.inr (.inl ((x.toUInt64 >>> (y.toInt64.toUInt64 &&& Int64.toUInt64 63)).toInt64)) :: r) h) hw0
    clear hw0
    exact lv_lushr hx hb hd rfl (go hw hlen hSs hP hL (z_vc trivial (z_vt (z_vt hS))))
  case lcmp =>
    cases Nat.eq_of_beq_eq_true hl
    have hw0 := hw
    clear hw
    obtain ⟨b, a, r, rfl, hw⟩ := z_invLL (P := fun y x r => nx L (.inl (lg_cmp x y) :: r) h) hw0
    clear hw0
    exact W.lcmp hx hb hd (go hw hlen hSs hP hL (z_vc trivial (z_vt (z_vt hS))))
  case i2l =>
    cases Nat.eq_of_beq_eq_true hl
    have hw0 := hw
    clear hw
    obtain ⟨a, r, rfl, hw⟩ := z_invI (P := fun x r => nx L (.inr (.inl x.toInt64) :: r) h) hw0
    clear hw0
    exact lv_i2l hx hb hd rfl (go hw hlen hSs hP hL (z_vc trivial (z_vt hS)))
  case l2i =>
    cases Nat.eq_of_beq_eq_true hl
    have hw0 := hw
    clear hw
    obtain ⟨a, r, rfl, hw⟩ := z_invL (P := fun x r => nx L (.inl x.toInt32 :: r) h) hw0
    clear hw0
    exact lv_l2i hx hb hd rfl (go hw hlen hSs hP hL (z_vc trivial (z_vt hS)))
  case i2b =>
    cases Nat.eq_of_beq_eq_true hl
    have hw0 := hw
    clear hw
    obtain ⟨a, r, rfl, hw⟩ := z_invI (P := fun x r => nx L (.inl x.toInt8.toInt32 :: r) h) hw0
    clear hw0
    exact lv_i2b hx hb hd rfl (go hw hlen hSs hP hL (z_vc trivial (z_vt hS)))
  case i2c =>
    cases Nat.eq_of_beq_eq_true hl
    have hw0 := hw
    clear hw
    obtain ⟨a, r, rfl, hw⟩ := z_invI (P := fun x r => nx L (.inl (x.toUInt32 % 65536).toInt32 :: r) h) hw0
    clear hw0
    exact lv_i2c hx hb hd rfl (go hw hlen hSs hP hL (z_vc trivial (z_vt hS)))
  case dup =>
    cases Nat.eq_of_beq_eq_true hl
    match st, hw, hS with
    | .inl x :: r, hw, hS => exact lv_dup hx hb hd rfl (go hw hlen hSs hP hL (z_vc trivial hS))
    | .inr (.inr x) :: r, hw, hS => exact lv_dup hx hb hd (z_cat_cv cx _ (fun y e => by cases e)) (go hw hlen hSs hP hL (z_vc (z_vh hS) hS))
    | [], hw, _ => exact False.elim hw
    | .inr (.inl x) :: r, hw, _ => exact False.elim hw
  case pop =>
    cases Nat.eq_of_beq_eq_true hl
    match st, hw, hS with
    | .inl x :: r, hw, hS => exact lv_pop hx hb hd rfl (go hw hlen hSs hP hL (z_vt hS))
    | .inr (.inr x) :: r, hw, hS => exact lv_pop hx hb hd (z_cat_cv cx _ (fun y e => by cases e)) (go hw hlen hSs hP hL (z_vt hS))
    | [], hw, _ => exact False.elim hw
    | .inr (.inl x) :: r, hw, _ => exact False.elim hw
  case dup2 =>
    cases Nat.eq_of_beq_eq_true hl
    have hw0 := hw
    clear hw
    obtain ⟨x, q, r, rfl, hw⟩ := z_invIR (P := fun x q r => nx L (.inl x :: .inr (.inr q) :: .inl x :: .inr (.inr q) :: r) h) hw0
    clear hw0
    exact lv_dup2_11 hx hb hd rfl (z_cat_cv cx _ (fun y e => by cases e)) (go hw hlen hSs hP hL (z_vc trivial (z_vc (z_vh (z_vt hS)) hS)))
  case ifCond cnd off =>
    cases Nat.eq_of_beq_eq_true hl
    have hw0 := hw
    clear hw
    obtain ⟨a, r, rfl, hw⟩ := z_invI (P := fun x r => z_if cnd x 0 (to ((pc : Int) + off).toNat L r h) (nx L r h)) hw0
    clear hw0
    have htn : 0 ≤ (pc : Int) + off := by simpa [z_okr, z_lk] using hr
    have ht : (pc : Int) + off = (((pc : Int) + off).toNat : Int) := (Int.toNat_of_nonneg htn).symm
    · cases cnd
      case eq => exact lv_if_eq hx hb hd ht (fun z => gt (hw.1 z) hlen hP hL (z_vt hS)) (fun z => go (hw.2 z) hlen hSs hP hL (z_vt hS))
      case ne => exact lv_if_ne hx hb hd ht (fun z => gt (hw.2 z) hlen hP hL (z_vt hS)) (fun z => go (hw.1 z) hlen hSs hP hL (z_vt hS))
      case lt => exact lv_if_lt hx hb hd ht (fun z => gt (hw.1 z) hlen hP hL (z_vt hS)) (fun z => go (hw.2 z) hlen hSs hP hL (z_vt hS))
      case ge => exact lv_if_ge hx hb hd ht (fun z => gt (hw.2 (Int32.not_lt.mpr z)) hlen hP hL (z_vt hS)) (fun z => go (hw.1 (Int32.not_le.mp z)) hlen hSs hP hL (z_vt hS))
      case gt => exact lv_if_gt hx hb hd ht (fun z => gt (hw.1 z) hlen hP hL (z_vt hS)) (fun z => go (hw.2 z) hlen hSs hP hL (z_vt hS))
      case le => exact lv_if_le hx hb hd ht (fun z => gt (hw.2 (Int32.not_lt.mpr z)) hlen hP hL (z_vt hS)) (fun z => go (hw.1 (Int32.not_le.mp z)) hlen hSs hP hL (z_vt hS))
  case if_icmp cnd off =>
    cases Nat.eq_of_beq_eq_true hl
    have hw0 := hw
    clear hw
    obtain ⟨b, a, r, rfl, hw⟩ := z_invII (P := fun y x r => z_if cnd x y (to ((pc : Int) + off).toNat L r h) (nx L r h)) hw0
    clear hw0
    have htn : 0 ≤ (pc : Int) + off := by simpa [z_okr, z_lk] using hr
    have ht : (pc : Int) + off = (((pc : Int) + off).toNat : Int) := (Int.toNat_of_nonneg htn).symm
    · cases cnd
      case eq => exact lv_icmp_eq hx hb hd ht (fun z => gt (hw.1 z) hlen hP hL (z_vt (z_vt hS))) (fun z => go (hw.2 z) hlen hSs hP hL (z_vt (z_vt hS)))
      case ne => exact lv_icmp_ne hx hb hd ht (fun z => gt (hw.2 z) hlen hP hL (z_vt (z_vt hS))) (fun z => go (hw.1 z) hlen hSs hP hL (z_vt (z_vt hS)))
      case lt => exact lv_icmp_lt hx hb hd ht (fun z => gt (hw.1 z) hlen hP hL (z_vt (z_vt hS))) (fun z => go (hw.2 z) hlen hSs hP hL (z_vt (z_vt hS)))
      case ge => exact lv_icmp_ge hx hb hd ht (fun z => gt (hw.2 (Int32.not_lt.mpr z)) hlen hP hL (z_vt (z_vt hS))) (fun z => go (hw.1 (Int32.not_le.mp z)) hlen hSs hP hL (z_vt (z_vt hS)))
      case gt => exact lv_icmp_gt hx hb hd ht (fun z => gt (hw.1 z) hlen hP hL (z_vt (z_vt hS))) (fun z => go (hw.2 z) hlen hSs hP hL (z_vt (z_vt hS)))
      case le => exact lv_icmp_le hx hb hd ht (fun z => gt (hw.2 (Int32.not_lt.mpr z)) hlen hP hL (z_vt (z_vt hS))) (fun z => go (hw.1 (Int32.not_le.mp z)) hlen hSs hP hL (z_vt (z_vt hS)))
  case goto off =>
    cases Nat.eq_of_beq_eq_true hl
    have htn : 0 ≤ (pc : Int) + off := by simpa [z_okr, z_lk] using hr
    exact lv_goto hx hb hd (Int.toNat_of_nonneg htn).symm (gt hw hlen hP hL hS)
  case tableswitch d lo hi ts =>
    have hw0 := hw
    clear hw
    obtain ⟨x, r, rfl, hw, hw2⟩ := z_invI (P := fun x r => z_tsw (fun t => to t.toNat L r h) x lo (ts.map (fun t => (pc : Int) + t)).toList ∧ ((x.toInt < lo ∨ hi < x.toInt) → to ((pc : Int) + d).toNat L r h)) hw0
    clear hw0
    simp only [z_okr, z_lk, Bool.and_true, Bool.and_eq_true, decide_eq_true_eq, List.all_eq_true] at hr
    obtain ⟨⟨hr1, hr2⟩, hr3⟩ := hr
    by_cases hout : x.toInt < lo ∨ hi < x.toInt
    · exact lv_tableOut hx hb hd hout (Int.toNat_of_nonneg hr1).symm (gt (hw2 hout) hlen hP hL (z_vt hS))
    · have h1 : ¬ x.toInt < lo := fun z => hout (Or.inl z)
      have h2 : ¬ hi < x.toInt := fun z => hout (Or.inr z)
      have hsz : (ts.map (fun t => (pc : Int) + t)).size = ts.size := by simp
      have hk : (x.toInt - lo).toNat < ts.size := by rw [hsz] at hr2; omega
      have ho1 : ts[(x.toInt - lo).toNat]? = some ts[(x.toInt - lo).toNat] := Array.getElem?_eq_getElem hk
      have ho2 : (ts.map (fun t => (pc : Int) + t)).toList[(x.toInt - lo).toNat]? = some ((pc : Int) + ts[(x.toInt - lo).toNat]) := by simp [ho1]
      have hJ := z_tsw_at ho2 hw (by rw [show lo + ((x.toInt - lo).toNat : Int) = x.toInt by omega]; rw [z_lit_eq]; exact (Int32.ofInt_toInt x).symm)
      have h0 := hr3 _ (List.mem_of_getElem? ho2)
      exact lv_tableIn hx hb hd h1 h2 ho1 (Int.toNat_of_nonneg h0).symm (gt hJ hlen hP hL (z_vt hS))
  case lookupswitch d ps =>
    have hw0 := hw
    clear hw
    obtain ⟨x, r, rfl, hw, hw2⟩ := z_invI (P := fun x r => z_lsw (fun t => to t.toNat L r h) x (ps.map (fun t => (t.1, (pc : Int) + t.2))).toList ∧ (z_lno x (ps.map (fun t => (t.1, (pc : Int) + t.2))).toList → to ((pc : Int) + d).toNat L r h)) hw0
    clear hw0
    simp only [z_okr, z_lk, Bool.and_true, Bool.and_eq_true, decide_eq_true_eq] at hr
    obtain ⟨⟨hr1, hr2⟩, hr3⟩ := hr
    rw [Array.toList_map] at hw hw2 hr3 hr1
    obtain ⟨h0, hJ⟩ := z_lsw_at (J := fun t => to t.toNat L r h) ps.toList hr2 hr3 hw hw2
    exact lv_lookup hx hb hd (z_srt ps.toList hr1) rfl (Int.toNat_of_nonneg h0).symm (gt hJ hlen hP hL (z_vt hS))
  case ldc k =>
    cases Nat.eq_of_beq_eq_true hl
    dsimp only [z_lk] at hw
    cases hf : (z_kls.getD (z_m y).2.2.2.2.1.1 []).find? (fun q => q.1 == k) with
    | some q =>
      rw [hf] at hw
      obtain ⟨hq, hk⟩ := z_find_mem hf
      have h2 := z_rowK hq
      rw [← z_lit_eq] at h2
      rw [eq_of_beq hk] at h2
      exact lv_ldc hx hb hown (hts _ (zTG_of h2 rfl)) hd (go hw hlen hSs hP hL (z_vc trivial hS))
    | none =>
      rw [hf] at hw
      dsimp only at hw
      cases hf2 : (z_sls.getD (z_m y).2.2.2.2.1.1 []).find? (fun q => q.1 == k) with
      | none => rw [hf2] at hw; exact False.elim hw
      | some q =>
        rw [hf2] at hw
        obtain ⟨hq, hk⟩ := z_find_mem hf2
        have h1 := hC.2.2.2.2.2.2.2.2 _ q hq
        rw [eq_of_beq hk] at h1
        have h26 := z_row z_lens.2.2.2.2.1 (f := fun _ q => Nat.blt q.2.1 26) z_chkS_ok hq
        exact va_ldcS hx hb hown h1 hd (go hw hlen hSs hP hL (z_vc (z_vl_str (Nat.blt_eq.mp h26)) hS))
  case ldc_w k =>
    cases Nat.eq_of_beq_eq_true hl
    dsimp only [z_lk] at hw
    cases hf : (z_kls.getD (z_m y).2.2.2.2.1.1 []).find? (fun q => q.1 == k) with
    | some q =>
      rw [hf] at hw
      obtain ⟨hq, hk⟩ := z_find_mem hf
      have h2 := z_rowK hq
      rw [← z_lit_eq] at h2
      rw [eq_of_beq hk] at h2
      exact lv_ldcw hx hb hown (hts _ (zTG_of h2 rfl)) hd (go hw hlen hSs hP hL (z_vc trivial hS))
    | none => rw [hf] at hw; exact False.elim hw
  case ldc2_w k =>
    cases Nat.eq_of_beq_eq_true hl
    dsimp only [z_lk] at hw
    cases hf : (z_lls.getD (z_m y).2.2.2.2.1.1 []).find? (fun q => q.1 == k) with
    | some q =>
      rw [hf] at hw
      obtain ⟨hq, hk⟩ := z_find_mem hf
      have h2 := z_rowLL hq
      rw [← z_litL_eq] at h2
      rw [eq_of_beq hk] at h2
      exact lv_ldc2 hx hb hown (hts _ (zTG_of h2 rfl)) hd (go hw hlen hSs hP hL (z_vc trivial hS))
    | none => rw [hf] at hw; exact False.elim hw
  case getfield k =>
    cases Nat.eq_of_beq_eq_true hl
    dsimp only [z_lk] at hw
    cases hf : (z_fls.getD (z_m y).2.2.2.2.1.1 []).find? (fun q => q.1 == k) with
    | none => rw [hf] at hw; exact False.elim hw
    | some w =>
      rw [hf] at hw
      obtain ⟨hq, hk⟩ := z_find_mem hf
      have hk := eq_of_beq hk
      have hw0 := hw
      clear hw
      obtain ⟨q, r, rfl, hw⟩ := z_invR (P := fun q r => match Nat.beq q.1 (w.2.1 / 1024) with
        | true => z_get h q (w.2.1 / 8 % 128) (w.2.1 % 8) (fun v => nx L (v :: r) h)
        | false => False) hw0
      clear hw0
      have hw0 := hw
      clear hw
      obtain ⟨hb1, hw⟩ := z_invB hw0
      clear hw0
      have hkd := Nat.eq_of_beq_eq_true hb1
      have hvq : z_vl cx q := z_vh hS
      by_cases h0 : w.2.1 / 1024 = 0
      · have h3 : q.1 ≠ 3 := by omega
        have hck := z_row z_lens.1 z_chkF_ok hq
        unfold z_chkF at hck
        rw [if_pos h0] at hck
        simp only [Bool.and_eq_true, decide_eq_true_eq, Bool.or_eq_true, beq_iff_eq] at hck
        rw [hk] at hck
        obtain ⟨i0, hi0, rfl⟩ := z_vl_0 hvq (by omega)
        rw [List.map_cons, z_cv_r h3]
        rcases hck.2 with h8 | h8
        · rw [h8] at hw
          have h9 := hck.1
          rw [h8] at h9
          refine vk_getf hx hb (hC.1.1 i0 hi0).2.2.1 hSs hown (hts _ (zTG_of h9 rfl)) (fun x hx => hx) hd ?_
          exact go (st' := .inr (.inr (1, i0, 0)) :: r) hw hlen hSs hP hL (z_vc (z_vl_strb hi0) (z_vt hS))
        · rw [h8] at hw
          have h9 := hck.1
          rw [h8] at h9
          refine vk_getf hx hb (hC.1.1 i0 hi0).2.1 hSs hown (hts _ (zTG_of h9 rfl)) (fun x hx => hx) hd ?_
          exact go (st' := .inl 0 :: r) hw hlen hSs hP hL (z_vc trivial (z_vt hS))
      · obtain ⟨hF, htc⟩ := z_fr_of hq h0
        rw [hk, ← hkd] at hF
        rw [← hkd] at htc
        have h10 : 10 ≤ q.1 := hF.choose_spec.choose_spec.choose_spec.1
        have h23 : q.1 < 23 := hF.choose_spec.choose_spec.choose_spec.2.1
        have hkn : w.2.1 / 8 % 128 < z_nf (q.1 - 10) := by
          obtain ⟨C, T, N, _, _, _, e1, e2, _⟩ := hF
          omega
        have h3 : q.1 ≠ 3 := by omega
        rw [List.map_cons, z_cv_r h3]
        refine z_Wget hE' ho hP hvq hF hd ?_
        unfold z_get at hw
        split at hw
        · rename_i e1
          rw [z_fv_i (Or.inl (htc.symm.trans e1))]
          exact go (st' := .inl _ :: r) hw hlen hSs hP hL (z_vc trivial (z_vt hS))
        · rename_i e1
          rw [z_fv_i (Or.inr (htc.symm.trans e1))]
          exact go (st' := .inl _ :: r) hw hlen hSs hP hL (z_vc trivial (z_vt hS))
        · rename_i e1
          rw [z_fv_l (htc.symm.trans e1)]
          exact go (st' := .inr (.inl _) :: r) hw hlen hSs hP hL (z_vc trivial (z_vt hS))
        · rename_i e1
          have hvf := z_vl_fr hvq h10 h23 hkn (htc.symm.trans e1)
          rw [z_fv_f (htc.symm.trans e1), ← z_cv_r (cx := cx) (q := z_fr q (w.2.1 / 8 % 128)) (by omega)]
          exact go (st' := .inr (.inr _) :: r) hw hlen hSs hP hL (z_vc hvf.1 (z_vt hS))
        · rename_i e1
          obtain ⟨i, j, hm, hw⟩ := hw
          have hvm := hP.2 _ _ _ hm
          rw [z_fv_m (htc.symm.trans e1), hm]
          show W p l e (z_rm y) s m args below meth c H locs 0 0 _ (F0 m (pc + 3) ls (.ref (cx.2.1 (z_mk q.1 (w.2.1 / 8 % 128), i, j)) :: r.map (z_cv cx)))
          rw [← z_cv_r (cx := cx) hvm.2]
          exact go (st' := .inr (.inr _) :: r) hw hlen hSs hP hL (z_vc hvm.1 (z_vt hS))
        · rename_i e1
          exact absurd (htc.symm.trans e1) (z_tc_ne h10 h23 hkn).1
        · rename_i e1
          exact absurd (htc.symm.trans e1) (z_tc_ne h10 h23 hkn).2
        · exact False.elim hw
  case putfield k =>
    cases Nat.eq_of_beq_eq_true hl
    dsimp only [z_lk] at hw
    cases hf : (z_fls.getD (z_m y).2.2.2.2.1.1 []).find? (fun q => q.1 == k) with
    | none => rw [hf] at hw; exact False.elim hw
    | some w =>
      rw [hf] at hw
      obtain ⟨hq, hk⟩ := z_find_mem hf
      have hk := eq_of_beq hk
      have hw0 := hw
      clear hw
      obtain ⟨v, q, r, rfl, hw⟩ := z_invVR (P := fun v q r => match Nat.beq q.1 (w.2.1 / 1024) with
        | true => z_put h q (w.2.1 / 8 % 128) (w.2.1 % 8) v (fun h1 => nx L r h1)
        | false => False) hw0
      clear hw0
      have hw0 := hw
      clear hw
      obtain ⟨hb1, hw⟩ := z_invB hw0
      clear hw0
      have hkd := Nat.eq_of_beq_eq_true hb1
      have hvq : z_vl cx q := z_vh (z_vt hS)
      by_cases h0 : w.2.1 / 1024 = 0
      · have hck := z_row z_lens.1 z_chkF_ok hq
        unfold z_chkF at hck
        rw [if_pos h0] at hck
        simp only [Bool.and_eq_true, decide_eq_true_eq, Bool.or_eq_true, beq_iff_eq] at hck
        unfold z_put at hw
        rcases hck.2 with h8 | h8 <;> (rw [h8] at hw; exact False.elim hw)
      · obtain ⟨hF, htc⟩ := z_fr_of hq h0
        rw [hk, ← hkd] at hF
        rw [← hkd] at htc
        have h10 : 10 ≤ q.1 := hF.choose_spec.choose_spec.choose_spec.1
        have h23 : q.1 < 23 := hF.choose_spec.choose_spec.choose_spec.2.1
        have hkn : w.2.1 / 8 % 128 < z_nf (q.1 - 10) := by
          obtain ⟨C, T, N, _, _, _, e1, e2, _⟩ := hF
          omega
        have h3 : q.1 ≠ 3 := by omega
        have e10 : q.1 - 10 + 10 = q.1 := by omega
        unfold z_put at hw
        split at hw
        · rename_i e1
          have hz := htc.symm.trans e1
          rw [List.map_cons, List.map_cons, z_cv_r h3]
          refine z_Wput (ty := .int) (h1 := z_uI h q (w.2.1 / 8 % 128) _) hE' ho hP hvq hF hd (fun C T N hc => z_ty_of hc (by rw [e10]; exact hz) hkn (Or.inl rfl)) rfl rfl (by rw [z_fv_i (Or.inl hz)]; show Value.int (if q = q ∧ _ = _ then _ else _) = _; rw [if_pos ⟨rfl, rfl⟩]; rfl) (fun j hj => z_fv_uI hj) (fun q' hq' => z_cell_uI hq') hP.2 (fun H1 locs1 hP1 hS1 => go (hw _ rfl) hlen hS1 hP1 hL (z_vt (z_vt hS)))
        · rename_i e1
          obtain ⟨h01, hw⟩ := hw
          have hz := htc.symm.trans e1
          rw [List.map_cons, List.map_cons, z_cv_r h3]
          refine z_Wput (ty := .boolean) (h1 := z_uI h q (w.2.1 / 8 % 128) _) hE' ho hP hvq hF hd (fun C T N hc => z_ty_of hc (by rw [e10]; exact hz) hkn (Or.inr (Or.inl rfl))) (by rcases h01 with h | h <;> (subst h; rfl)) (by rcases h01 with h | h <;> (subst h; rfl)) (by rw [z_fv_i (Or.inr hz)]; show Value.int (if q = q ∧ _ = _ then _ else _) = _; rw [if_pos ⟨rfl, rfl⟩]; rfl) (fun j hj => z_fv_uI hj) (fun q' hq' => z_cell_uI hq') hP.2 (fun H1 locs1 hP1 hS1 => go (hw _ rfl) hlen hS1 hP1 hL (z_vt (z_vt hS)))
        · rename_i e1
          have hz := htc.symm.trans e1
          rw [List.map_cons, List.map_cons, z_cv_r h3]
          refine z_Wput (ty := .long) (h1 := z_uL h q (w.2.1 / 8 % 128) _) hE' ho hP hvq hF hd (fun C T N hc => z_ty_of hc (by rw [e10]; exact hz) hkn (Or.inr (Or.inr rfl))) rfl rfl (by rw [z_fv_l hz]; show Value.long (if q = q ∧ _ = _ then _ else _) = _; rw [if_pos ⟨rfl, rfl⟩]; rfl) (fun j hj => z_fv_uL hj) (fun q' hq' => z_cell_uL hq') hP.2 (fun H1 locs1 hP1 hS1 => go (hw _ rfl) hlen hS1 hP1 hL (z_vt (z_vt hS)))
        · rename_i rr e1
          obtain ⟨hb2, hw⟩ := z_invB hw
          have hz := htc.symm.trans e1
          have hvr : z_vl cx rr := z_vh hS
          have hr3 : rr.1 ≠ 3 := by
            rw [Nat.eq_of_beq_eq_true hb2]
            exact z_mk_ne
          obtain ⟨nm, hnm⟩ := z_ty_m (q := q) (k := w.2.1 / 8 % 128) h10 h23 hkn hz
          rw [List.map_cons, List.map_cons, z_cv_r h3, z_cv_r hr3]
          refine z_Wput (ty := .object nm) (h1 := z_uR h q (w.2.1 / 8 % 128) rr) hE' ho hP hvq hF hd hnm rfl rfl (by rw [z_fv_m hz]; show va_rf ((if q = q ∧ _ = _ then some rr else _).map cx.2.1) = _; rw [if_pos ⟨rfl, rfl⟩]; rfl) (fun j hj => z_fv_uR hj) (fun q' hq' => z_cell_uR hq') (z_uR_ok ⟨hvr, hr3⟩ hP.2) (fun H1 locs1 hP1 hS1 => go (hw _ rfl) hlen hS1 hP1 hL (z_vt (z_vt hS)))
        · exact False.elim hw
  case getstatic k =>
    cases Nat.eq_of_beq_eq_true hl
    dsimp only [z_lk] at hw
    cases hf : (z_gls.getD (z_m y).2.2.2.2.1.1 []).find? (fun q => q.1 == k) with
    | none => rw [hf] at hw; exact False.elim hw
    | some w =>
      rw [hf] at hw
      obtain ⟨hq, hk⟩ := z_find_mem hf
      have hk := eq_of_beq hk
      have hck := z_row z_lens.2.2.2.2.2 z_chkG_ok hq
      unfold z_chkG at hck
      dsimp only [z_ins] at hw
      split at hw
      · rename_i e1
        rw [e1] at hck
        have h1 := of_decide_eq_true hck
        rw [hk] at h1
        exact va_gets hx hb hC.2.1 hSs hown (hts _ (zTG_of h1 rfl)) (fun x hx => hx) hd (go (st' := .inl 1 :: st) hw hlen hSs hP hL (z_vc trivial hS))
      · rename_i e1
        rw [e1] at hck
        have h1 := of_decide_eq_true hck
        rw [hk] at h1
        exact va_gets hx hb hC.2.2.1 hSs hown (hts _ (zTG_of h1 rfl)) (fun x hx => hx) hd (go (st' := .inr (.inr (3, 0, 0)) :: st) hw hlen hSs hP hL (z_vc z_vl_c3 hS))
      · rename_i e1
        rw [e1] at hck
        have h1 := of_decide_eq_true hck
        rw [hk] at h1
        exact va_gets hx hb hC.2.2.2.1 hSs hown (hts _ (zTG_of h1 rfl)) (fun x hx => hx) hd (go (st' := .inr (.inr (2, 0, 0)) :: st) hw hlen hSs hP hL (z_vc (z_vl_c2 (by decide)) hS))
      · rename_i e1
        rw [e1] at hck
        have h1 := of_decide_eq_true hck
        rw [hk] at h1
        have h9 := hown
        rw [h1.1] at h9
        have h216 := h1.2
        subst h216
        exact va_getsN hx hb hC.2.2.2.2.1 hSs h9 (va_Nw.use rfl hC.2.2.2.2.2.2.2.1) (fun x hx => hx) hd (go (st' := .inr (.inr (2, 1, 0)) :: st) hw hlen hSs hP hL (z_vc (z_vl_c2 (by decide)) hS))
      · exact False.elim hw
  case iaload =>
    cases Nat.eq_of_beq_eq_true hl
    have hw0 := hw
    clear hw
    obtain ⟨x, q, r, rfl, hw⟩ := z_invIR (P := fun x q r => match z_at q.1 with
      | 0 => vp_in x (z_ln q) ∧ nx L (.inl (h.1 q x.toNatClampNeg) :: r) h
      | 9 => vp_in x (z_ln q) ∧ nx L (.inl ((z_ci.getD q.2.1 []).getD x.toNatClampNeg 0) :: r) h
      | _ => False) hw0
    clear hw0
    have hvq : z_vl cx q := z_vh (z_vt hS)
    split at hw
    · rename_i ha
      obtain ⟨hin, hw⟩ := hw
      have h23 := (z_at_fact ha (by omega)).1
      rw [List.map_cons, List.map_cons, z_cv_r (by omega)]
      exact z_Waldi hE' hP hvq ha hin hd (go (st' := .inl _ :: r) hw hlen hSs hP hL (z_vc trivial (z_vt (z_vt hS))))
    · rename_i ha
      obtain ⟨hin, hw⟩ := hw
      have h2 := z_at_9 ha
      obtain ⟨i0, hi0, rfl⟩ := z_vl_2 hvq h2
      rw [List.map_cons, List.map_cons, z_cv_r (show (_ : Nat) ≠ 3 by intro z; cases z)]
      obtain ⟨cell, g1, g2, g3, g4, g5, g6⟩ := z_WT hE' (hC.2.2.2.2.2.1 i0 hi0)
      have hlt : x.toNatClampNeg < z_ln (2, i0, 0) := Nat.not_le.mp fun z => hin (Or.inr z)
      exact W.iald (v := .int ((z_ci.getD i0 []).getD x.toNatClampNeg 0)) hx hb g1 g2 g3 (fun z => hin (z.imp id (fun z => Nat.le_trans g4 z))) (g6 _ hlt) rfl rfl hd (go (st' := .inl _ :: r) hw hlen hSs hP hL (z_vc trivial (z_vt (z_vt hS))))
    · exact False.elim hw
  case baload =>
    cases Nat.eq_of_beq_eq_true hl
    have hw0 := hw
    clear hw
    obtain ⟨x, q, r, rfl, hw⟩ := z_invIR (P := fun x q r => match z_at q.1 with
      | 2 => vp_in x (z_ln q) ∧ nx L (.inl (h.1 q x.toNatClampNeg) :: r) h
      | 3 => vp_in x (z_ln q) ∧ nx L (.inl (h.1 q x.toNatClampNeg) :: r) h
      | 8 => vp_in x (z_ln q) ∧ nx L (.inl ((z_sb.getD q.2.1 []).getD x.toNatClampNeg 0) :: r) h
      | _ => False) hw0
    clear hw0
    have hvq : z_vl cx q := z_vh (z_vt hS)
    split at hw
    · rename_i ha
      obtain ⟨hin, hw⟩ := hw
      have h23 := (z_at_fact ha (by omega)).1
      rw [List.map_cons, List.map_cons, z_cv_r (by omega)]
      exact z_Waldb hE' hP hvq ha hin hd (go (st' := .inl _ :: r) hw hlen hSs hP hL (z_vc trivial (z_vt (z_vt hS))))
    · rename_i ha
      obtain ⟨hin, hw⟩ := hw
      have h23 := (z_at_fact ha (by omega)).1
      rw [List.map_cons, List.map_cons, z_cv_r (by omega)]
      exact z_Waldz hE' hP hvq ha hin hd (go (st' := .inl _ :: r) hw hlen hSs hP hL (z_vc trivial (z_vt (z_vt hS))))
    · rename_i ha
      obtain ⟨hin, hw⟩ := hw
      have h2 := z_at_8 ha
      obtain ⟨i0, hi0, rfl⟩ := z_vl_1 hvq h2
      rw [List.map_cons, List.map_cons, z_cv_r (show (_ : Nat) ≠ 3 by intro z; cases z)]
      obtain ⟨cell, g1, g2, g3, g4, g5, g6⟩ := z_WT hE' (hC.1.1 i0 hi0).2.2.2
      rw [z_sbl hi0] at g4 g6
      have hlt : x.toNatClampNeg < z_ln (1, i0, 0) := Nat.not_le.mp fun z => hin (Or.inr z)
      exact W.bald (v := .int ((z_sb.getD i0 []).getD x.toNatClampNeg 0)) hx hb g1 g2 g3 (fun z => hin (z.imp id (fun z => Nat.le_trans g4 z))) (g6 _ hlt) rfl rfl hd (go (st' := .inl _ :: r) hw hlen hSs hP hL (z_vc trivial (z_vt (z_vt hS))))
    · exact False.elim hw
  case laload =>
    cases Nat.eq_of_beq_eq_true hl
    have hw0 := hw
    clear hw
    obtain ⟨x, q, r, rfl, hw⟩ := z_invIR (P := fun x q r => match z_at q.1 with
      | 1 => vp_in x (z_ln q) ∧ nx L (.inr (.inl (h.2.1 q x.toNatClampNeg)) :: r) h
      | _ => False) hw0
    clear hw0
    have hvq : z_vl cx q := z_vh (z_vt hS)
    split at hw
    · rename_i ha
      obtain ⟨hin, hw⟩ := hw
      have h23 := (z_at_fact ha (by omega)).1
      rw [List.map_cons, List.map_cons, z_cv_r (by omega)]
      exact z_Waldl hE' hP hvq ha hin hd (go (st' := .inr (.inl _) :: r) hw hlen hSs hP hL (z_vc trivial (z_vt (z_vt hS))))
    · exact False.elim hw
  case aaload =>
    cases Nat.eq_of_beq_eq_true hl
    have hw0 := hw
    clear hw
    obtain ⟨x, q, r, rfl, hw⟩ := z_invIR (P := fun x q r => match z_at q.1 with
      | 4 => vp_in x (z_ln q) ∧ nx L (.inr (.inr (z_el q x.toNatClampNeg)) :: r) h
      | 5 => vp_in x (z_ln q) ∧ ∃ i j : Nat, h.2.2 q x.toNatClampNeg = some (14, i, j) ∧ nx L (.inr (.inr (14, i, j)) :: r) h
      | _ => False) hw0
    clear hw0
    have hvq : z_vl cx q := z_vh (z_vt hS)
    split at hw
    · rename_i ha
      obtain ⟨hin, hw⟩ := hw
      have h23 := (z_at_fact ha (by omega)).1
      have hlt : x.toNatClampNeg < z_ln q := Nat.not_le.mp fun z => hin (Or.inr z)
      have hve := z_vl_el hvq ha hlt
      rw [List.map_cons, List.map_cons, z_cv_r (by omega)]
      refine z_Walda hE' hP hvq ha hin hd ?_
      rw [← z_cv_r (cx := cx) (q := z_el q x.toNatClampNeg) (by omega)]
      exact go (st' := .inr (.inr _) :: r) hw hlen hSs hP hL (z_vc hve.1 (z_vt (z_vt hS)))
    · rename_i ha
      obtain ⟨hin, i, j, hm, hw⟩ := hw
      have h23 := (z_at_fact ha (by omega)).1
      have hvm := hP.2 _ _ _ hm
      rw [List.map_cons, List.map_cons, z_cv_r (by omega)]
      refine z_Waldm hE' hP hvq ha hin hm hd ?_
      rw [← z_cv_r (cx := cx) hvm.2]
      exact go (st' := .inr (.inr _) :: r) hw hlen hSs hP hL (z_vc hvm.1 (z_vt (z_vt hS)))
    · exact False.elim hw
  case iastore =>
    cases Nat.eq_of_beq_eq_true hl
    have hw0 := hw
    clear hw
    obtain ⟨v, x, q, r, rfl, hw⟩ := z_invIIR (P := fun v x q r => match z_at q.1 with
      | 0 => vp_in x (z_ln q) ∧ ∀ h1, h1 = z_uI h q x.toNatClampNeg v → nx L r h1
      | _ => False) hw0
    clear hw0
    have hvq : z_vl cx q := z_vh (z_vt (z_vt hS))
    split at hw
    · rename_i ha
      obtain ⟨hin, hw⟩ := hw
      have h23 := (z_at_fact ha (by omega)).1
      rw [List.map_cons, List.map_cons, List.map_cons, z_cv_r (by omega)]
      exact z_Wasti hE' hP hvq ha hin hd (fun H1 locs1 hP1 hS1 => go (hw _ rfl) hlen hS1 hP1 hL (z_vt (z_vt (z_vt hS))))
    · exact False.elim hw
  case bastore =>
    cases Nat.eq_of_beq_eq_true hl
    have hw0 := hw
    clear hw
    obtain ⟨v, x, q, r, rfl, hw⟩ := z_invIIR (P := fun v x q r => match z_at q.1 with
      | 2 => vp_in x (z_ln q) ∧ ∀ h1, h1 = z_uI h q x.toNatClampNeg (vp_nar .byte v) → nx L r h1
      | 3 => vp_in x (z_ln q) ∧ ∀ h1, h1 = z_uI h q x.toNatClampNeg (vp_nar .boolean v) → nx L r h1
      | _ => False) hw0
    clear hw0
    have hvq : z_vl cx q := z_vh (z_vt (z_vt hS))
    split at hw
    · rename_i ha
      obtain ⟨hin, hw⟩ := hw
      have h23 := (z_at_fact ha (by omega)).1
      rw [List.map_cons, List.map_cons, List.map_cons, z_cv_r (by omega)]
      exact z_Wastb hE' hP hvq ha hin hd (fun H1 locs1 hP1 hS1 => go (hw _ rfl) hlen hS1 hP1 hL (z_vt (z_vt (z_vt hS))))
    · rename_i ha
      obtain ⟨hin, hw⟩ := hw
      have h23 := (z_at_fact ha (by omega)).1
      rw [List.map_cons, List.map_cons, List.map_cons, z_cv_r (by omega)]
      exact z_Wastz hE' hP hvq ha hin hd (fun H1 locs1 hP1 hS1 => go (hw _ rfl) hlen hS1 hP1 hL (z_vt (z_vt (z_vt hS))))
    · exact False.elim hw
  case lastore =>
    cases Nat.eq_of_beq_eq_true hl
    have hw0 := hw
    clear hw
    obtain ⟨v, x, q, r, rfl, hw⟩ := z_invLIR (P := fun v x q r => match z_at q.1 with
      | 1 => vp_in x (z_ln q) ∧ ∀ h1, h1 = z_uL h q x.toNatClampNeg v → nx L r h1
      | _ => False) hw0
    clear hw0
    have hvq : z_vl cx q := z_vh (z_vt (z_vt hS))
    split at hw
    · rename_i ha
      obtain ⟨hin, hw⟩ := hw
      have h23 := (z_at_fact ha (by omega)).1
      rw [List.map_cons, List.map_cons, List.map_cons, z_cv_r (by omega)]
      exact z_Wastl hE' hP hvq ha hin hd (fun H1 locs1 hP1 hS1 => go (hw _ rfl) hlen hS1 hP1 hL (z_vt (z_vt (z_vt hS))))
    · exact False.elim hw
  case aastore =>
    cases Nat.eq_of_beq_eq_true hl
    have hw0 := hw
    clear hw
    obtain ⟨v, x, q, r, rfl, hw⟩ := z_invRIR (P := fun v x q r => match z_at q.1 with
      | 5 => (match Nat.beq v.1 14 with
        | true => vp_in x (z_ln q) ∧ ∀ h1, h1 = z_uR h q x.toNatClampNeg v → nx L r h1
        | false => False)
      | _ => False) hw0
    clear hw0
    have hvq : z_vl cx q := z_vh (z_vt (z_vt hS))
    have hvv : z_vl cx v := z_vh hS
    split at hw
    · rename_i ha
      obtain ⟨hb2, hin, hw⟩ := z_invB hw
      have h14 := Nat.eq_of_beq_eq_true hb2
      have h23 := (z_at_fact ha (by omega)).1
      rw [List.map_cons, List.map_cons, List.map_cons, z_cv_r (by omega), z_cv_r (by omega)]
      exact z_Wasta hE' hP hvq hvv h14 ha hin hd (fun H1 locs1 hP1 hS1 => go (hw _ rfl) hlen hS1 hP1 hL (z_vt (z_vt (z_vt hS))))
    · exact False.elim hw
  case arraylength =>
    cases Nat.eq_of_beq_eq_true hl
    have hw0 := hw
    clear hw
    obtain ⟨q, r, rfl, hw⟩ := z_invR (P := fun q r => match Nat.ble (z_at q.1) 9 with
      | true => nx L (.inl (Int32.ofNat (z_ln q)) :: r) h
      | false => False) hw0
    clear hw0
    obtain ⟨hb2, hw⟩ := z_invB hw
    have h9 := Nat.le_of_ble_eq_true hb2
    have hvq : z_vl cx q := z_vh hS
    rcases Nat.lt_or_ge 5 (z_at q.1) with h5 | h5
    · rcases z_at_89 h9 h5 with ha | ha
      · obtain ⟨i0, hi0, rfl⟩ := z_vl_1 hvq (z_at_8 ha)
        rw [List.map_cons, z_cv_r (show (_ : Nat) ≠ 3 by intro z; cases z)]
        obtain ⟨cell, g1, g2, g3, g4, g5, g6⟩ := z_WT hE' (hC.1.1 i0 hi0).2.2.2
        rw [z_sbl hi0] at g5
        exact W.alen (n := Int32.ofNat (z_ln (1, i0, 0))) hx hb g1 g2 g5 rfl rfl hd (go (st' := .inl _ :: r) hw hlen hSs hP hL (z_vc trivial (z_vt hS)))
      · obtain ⟨i0, hi0, rfl⟩ := z_vl_2 hvq (z_at_9 ha)
        rw [List.map_cons, z_cv_r (show (_ : Nat) ≠ 3 by intro z; cases z)]
        obtain ⟨cell, g1, g2, g3, g4, g5, g6⟩ := z_WT hE' (hC.2.2.2.2.2.1 i0 hi0)
        exact W.alen (n := Int32.ofNat (z_ln (2, i0, 0))) hx hb g1 g2 g5 rfl rfl hd (go (st' := .inl _ :: r) hw hlen hSs hP hL (z_vc trivial (z_vt hS)))
    · have h23 := (z_at_fact rfl h5).1
      rw [List.map_cons, z_cv_r (by omega)]
      exact z_Walen hE' hP hvq rfl h5 hd (go (st' := .inl _ :: r) hw hlen hSs hP hL (z_vc trivial (z_vt hS)))
  case ireturn =>
    cases Nat.eq_of_beq_eq_true hl
    dsimp only [z_lk] at hw
    split at hw
    · rename_i e1
      have hw0 := hw
      clear hw
      obtain ⟨x, rfl, hw⟩ := z_invSi (P := fun x => Q (some (.inl x)) h) hw0
      clear hw0
      exact W.iret hx hb (hrt.trans e1) (fun t ht hW => ⟨⟨some (.inl x), h, rfl, z_W.go hP hK hC hD hSs ht hW, fun v e => by cases e; trivial, hw⟩, hSs.F ht⟩) (fun q hq => hSs.2.2 q hq) hd
    · rename_i e1
      have hw0 := hw
      clear hw
      obtain ⟨x, rfl, h01, hw⟩ := z_invSi (P := fun x => (x = 0 ∨ x = 1) ∧ Q (some (.inl x)) h) hw0
      clear hw0
      exact W.zret hx hb (hrt.trans e1) (by rcases h01 with h | h <;> (subst h; rfl)) (fun t ht hW => ⟨⟨some (.inl x), h, rfl, z_W.go hP hK hC hD hSs ht hW, fun v e => by cases e; trivial, hw⟩, hSs.F ht⟩) (fun q hq => hSs.2.2 q hq) hd
    · rename_i e1
      have hw0 := hw
      clear hw
      obtain ⟨x, rfl, hn, hw⟩ := z_invSi (P := fun x => narrow .byte (.int x) = .int x ∧ Q (some (.inl x)) h) hw0
      clear hw0
      exact W.zret hx hb (hrt.trans e1) hn (fun t ht hW => ⟨⟨some (.inl x), h, rfl, z_W.go hP hK hC hD hSs ht hW, fun v e => by cases e; trivial, hw⟩, hSs.F ht⟩) (fun q hq => hSs.2.2 q hq) hd
    · rename_i e1
      have hw0 := hw
      clear hw
      obtain ⟨x, rfl, hn, hw⟩ := z_invSi (P := fun x => narrow .char (.int x) = .int x ∧ Q (some (.inl x)) h) hw0
      clear hw0
      exact W.zret hx hb (hrt.trans e1) hn (fun t ht hW => ⟨⟨some (.inl x), h, rfl, z_W.go hP hK hC hD hSs ht hW, fun v e => by cases e; trivial, hw⟩, hSs.F ht⟩) (fun q hq => hSs.2.2 q hq) hd
    · exact False.elim hw
  case lreturn =>
    cases Nat.eq_of_beq_eq_true hl
    have hw0 := hw
    clear hw
    obtain ⟨x, rfl, hw⟩ := z_invSl (P := fun x => Q (some (.inr (.inl x))) h) hw0
    clear hw0
    exact W.lret hx hb (hrt.trans (z_ret_l hr)) (fun t ht hW => ⟨⟨some (.inr (.inl x)), h, rfl, z_W.go hP hK hC hD hSs ht hW, fun v e => by cases e; trivial, hw⟩, hSs.F ht⟩) (fun q hq => hSs.2.2 q hq) hd
  case areturn =>
    cases Nat.eq_of_beq_eq_true hl
    have hw0 := hw
    clear hw
    obtain ⟨q, rfl, hw⟩ := z_invSa (P := fun q => match Nat.beq q.1 3 with
      | false => Q (some (.inr (.inr q))) h
      | true => False) hw0
    clear hw0
    have hvq : z_vl cx q := z_vh hS
    split at hw
    · rename_i hb3
      have h3 : q.1 ≠ 3 := fun z => by rw [z] at hb3; cases hb3
      obtain ⟨nm, hnm⟩ := z_ret_a hr
      rw [List.map_cons, z_cv_r h3]
      exact W.aret hx hb (hrt.trans hnm) (Or.inl ⟨nm, rfl⟩) (Or.inr ⟨_, rfl⟩) (fun t ht hW => ⟨⟨some (.inr (.inr q)), h, by rw [Option.map_some, z_cv_r h3], z_W.go hP hK hC hD hSs ht hW, fun v e => by cases e; exact hvq, hw⟩, hSs.F ht⟩) (fun q hq => hSs.2.2 q hq) hd
    · exact False.elim hw
  case return_ =>
    cases Nat.eq_of_beq_eq_true hl
    match st, hw with
    | [], hw => exact W.vret hx hb (hrt.trans (z_ret_v hr)) (fun t ht hW => ⟨⟨none, h, rfl, z_W.go hP hK hC hD hSs ht hW, fun v e => (by cases e), hw⟩, hSs.F ht⟩) (fun q hq => hSs.2.2 q hq) hd
    | _ :: _, hw => exact False.elim hw
  case invokevirtual k =>
    cases Nat.eq_of_beq_eq_true hl
    dsimp only [z_lk] at hw hr
    cases hf : (z_mls.getD (z_m y).2.2.2.2.1.1 []).find? (fun q => q.1 == k) with
    | none => rw [hf] at hw; exact False.elim hw
    | some w =>
      rw [hf] at hw hr
      obtain ⟨hq, hk⟩ := z_find_mem hf
      have hk := eq_of_beq hk
      have hck := z_row z_lens.2.1 z_chkL_ok hq
      unfold z_chkL at hck
      simp only [Bool.and_eq_true] at hck
      by_cases hm : w.2.2.1 = 0
      · dsimp only at hw hr
        rw [if_pos hm] at hw hr
        obtain ⟨hy2, hck⟩ := hck
        have hy2 := Nat.blt_eq.mp hy2
        rw [hm] at hck
        simp only [Bool.and_eq_true, Bool.not_eq_true', decide_eq_true_eq] at hck
        obtain ⟨hns, hlink⟩ := hck
        rw [hk] at hlink
        simp only [z_okr, Bool.and_true, Bool.and_eq_true] at hr
        have hfr := Nat.le_of_ble_eq_true hr.1.2
        have hlo := Nat.le_of_ble_eq_true hr.2
        obtain ⟨hF1, hF2, -, hF4, -, hF6, hF7, hF8, hF9⟩ := z_mf hy2
        have hen := z_en_v hy2 hns
        obtain ⟨as, r, hpop, hcat, hrc, hcall⟩ := z_invC hw
        obtain ⟨xs, hxl, hst, has⟩ := z_pop_spec _ _ _ _ _ hpop
        rw [List.append_nil] at has
        have hxs : xs = as.reverse := by rw [has, List.reverse_reverse]
        subst hxs
        have hva : ∀ v ∈ as, z_vv cx v := fun v hv => hS v (by rw [hst]; exact List.mem_append_left _ (List.mem_reverse.mpr hv))
        have hvr : ∀ v ∈ r, z_vv cx v := fun v hv => hS v (by rw [hst]; exact List.mem_append_right _ hv)
        have hsz : ls.size = (z_m y).2.2.1 := by rw [hL.1.1]; exact hlen
        have hlr : as.length = (z_m w.2.1).2.2.2.2.2.1.2 + 1 := by rw [List.length_reverse] at hxl; rw [hxl]; exact hen.1
        obtain ⟨q, as', rfl, hqk⟩ := z_recv hrc hen.2
        have h3 : q.1 ≠ 3 := by rw [hqk]; exact z_kc_ne
        have hvq : z_vl cx q := hva _ List.mem_cons_self
        have hrec : ∃ cellB : Cell, H[cx.2.1 q]? = some cellB ∧ cellB.vm.isStatics = false ∧ s.vm.findClass (z_m w.2.1).1.cls = some cellB.cls := by
          rw [← hF9]
          exact z_recvc hE' hP hvq ((z_en_np hy2).2 hns) hqk
        rw [hst, List.map_append, List.map_reverse, List.map_cons, z_cv_r h3, List.reverse_cons, List.append_assoc]
        refine z_callk (Qk := _) (va_runV (C := (z_m w.2.1).1.cls) (As := as'.map (z_cv cx)) (rest := r.map (z_cv cx)) (b := cx.2.1 q) (Ts := zTG) (own := z_cn (z_m y).2.2.2.2.1.1) (n := (z_m w.2.1).2.2.2.2.2.1.2) ⟨hx, hb, hml, hown, hts⟩ (hcall cx l hva) ⟨callB_of _ hts (z_ws_in hy2) rfl rfl rfl (hts _ hF2) (hts _ (zTG_of hlink rfl)) ⟨hF6, hF7, hF8⟩ ⟨hfr, hlo⟩, hts _ (hF4 hns).1, hts _ (hF4 hns).2⟩ ⟨z_W.blind, hrec, fun U hU hW => ⟨by rw [List.map_cons, z_cv_r h3], z_W.go hP hK hC hD hSs hU hW⟩⟩ rfl (by rw [List.length_map]; simp at hlr; omega) hsz rfl (lv_room (by rw [z_cat_spec]; exact hcat)) hd ⟨Nat.le_refl _, Nat.le_refl _⟩) hSs (fun rr hh H1 locs1 hP1 hv1 hq1 hS1 => ?_)
        have e1 : (rr.map (z_cv cx)).toList ++ r.map (z_cv cx) = (rr.toList ++ r).map (z_cv cx) := by cases rr <;> rfl
        rw [e1]
        exact gc hq1 hlen hS1 hP1 hL (z_vo hv1 hvr)
      · dsimp only at hw
        rw [if_neg hm] at hw
        exact False.elim hw
  case invokestatic k =>
    cases Nat.eq_of_beq_eq_true hl
    dsimp only [z_lk] at hw hr
    cases hf : (z_mls.getD (z_m y).2.2.2.2.1.1 []).find? (fun q => q.1 == k) with
    | none => rw [hf] at hw; exact False.elim hw
    | some w =>
      rw [hf] at hw hr
      obtain ⟨hq, hk⟩ := z_find_mem hf
      have hk := eq_of_beq hk
      have hck := z_row z_lens.2.1 z_chkL_ok hq
      unfold z_chkL at hck
      simp only [Bool.and_eq_true] at hck
      obtain ⟨hy2, hck⟩ := hck
      have hy2 := Nat.blt_eq.mp hy2
      dsimp only at hw hr
      split at hw
      · rename_i hm
        rw [hm] at hck hr
        simp only [Bool.and_eq_true, decide_eq_true_eq] at hck
        obtain ⟨hns, hlink⟩ := hck
        rw [hk] at hlink
        simp only [z_okr, Bool.and_true, Bool.and_eq_true] at hr
        have hfr := Nat.le_of_ble_eq_true hr.1.2
        have hlo := Nat.le_of_ble_eq_true hr.2
        obtain ⟨hF1, hF2, hF3, -, -, hF6, hF7, hF8, hF9⟩ := z_mf hy2
        have hen := z_en_s hy2 hns
        obtain ⟨as, r, hpop, hcat, hrc, hcall⟩ := z_invC hw
        obtain ⟨xs, hxl, hst, has⟩ := z_pop_spec _ _ _ _ _ hpop
        rw [List.append_nil] at has
        have hxs : xs = as.reverse := by rw [has, List.reverse_reverse]
        subst hxs
        have hva : ∀ v ∈ as, z_vv cx v := fun v hv => hS v (by rw [hst]; exact List.mem_append_left _ (List.mem_reverse.mpr hv))
        have hvr : ∀ v ∈ r, z_vv cx v := fun v hv => hS v (by rw [hst]; exact List.mem_append_right _ hv)
        have hsz : ls.size = (z_m y).2.2.1 := by rw [hL.1.1]; exact hlen
        have hlr : as.length = (z_m w.2.1).2.2.2.2.2.1.2 := by rw [List.length_reverse] at hxl; rw [hxl]; exact hen.1
        rw [hst, List.map_append, List.map_reverse]
        refine z_callk (Qk := _) (va_runS (As := as.map (z_cv cx)) (rest := r.map (z_cv cx)) (Ts := zTG) (own := z_cn (z_m y).2.2.2.2.1.1) (n := (z_m w.2.1).2.2.2.2.2.1.2) ⟨hx, hb, hml, hown, hts⟩ (hcall cx l hva) ⟨callB_of _ hts (z_ws_in hy2) rfl rfl rfl (hts _ hF2) (hts _ (zTG_of hlink rfl)) ⟨hF6, hF7, hF8⟩ ⟨hfr, hlo⟩, hts _ (hF3 hns)⟩ ⟨z_W.blind, fun U hU hW => ⟨rfl, z_W.go hP hK hC hD hSs hU hW⟩⟩ rfl (by rw [List.length_map]; exact hlr) hsz rfl (lv_room (by rw [z_cat_spec]; exact hcat)) hd ⟨Nat.le_refl _, Nat.le_refl _⟩) hSs (fun rr hh H1 locs1 hP1 hv1 hq1 hS1 => ?_)
        have e1 : (rr.map (z_cv cx)).toList ++ r.map (z_cv cx) = (rr.toList ++ r).map (z_cv cx) := by cases rr <;> rfl
        rw [e1]
        exact gc hq1 hlen hS1 hP1 hL (z_vo hv1 hvr)
      · rename_i hm
        rw [hm] at hck hr
        have hns : (z_m w.2.1).2.2.2.2.2.1.1 = true := hck
        have hnest := hC.2.2.2.2.2.2.1 _ w hq hm
        rw [hk] at hnest
        simp only [z_okr, Bool.and_true, Bool.and_eq_true] at hr
        have hfr := Nat.le_of_ble_eq_true hr.1.2
        have hlo := Nat.le_of_ble_eq_true hr.2
        obtain ⟨hF1, hF2, hF3, -, -, hF6, hF7, hF8, hF9⟩ := z_mf hy2
        have hen := z_en_s hy2 hns
        obtain ⟨as, r, hpop, hcat, hrc, hcall⟩ := z_invC hw
        obtain ⟨xs, hxl, hst, has⟩ := z_pop_spec _ _ _ _ _ hpop
        rw [List.append_nil] at has
        have hxs : xs = as.reverse := by rw [has, List.reverse_reverse]
        subst hxs
        have hva : ∀ v ∈ as, z_vv cx v := fun v hv => hS v (by rw [hst]; exact List.mem_append_left _ (List.mem_reverse.mpr hv))
        have hvr : ∀ v ∈ r, z_vv cx v := fun v hv => hS v (by rw [hst]; exact List.mem_append_right _ hv)
        have hsz : ls.size = (z_m y).2.2.1 := by rw [hL.1.1]; exact hlen
        have hlr : as.length = (z_m w.2.1).2.2.2.2.2.1.2 := by rw [List.length_reverse] at hxl; rw [hxl]; exact hen.1
        rw [hst, List.map_append, List.map_reverse]
        refine z_callk (Qk := _) (va_runSN (As := as.map (z_cv cx)) (rest := r.map (z_cv cx)) (Ts := zTG) (own := z_cn (z_m y).2.2.2.2.1.1) (n := (z_m w.2.1).2.2.2.2.2.1.2) ⟨hx, hb, hml, hown, hts⟩ (hcall cx l hva) ⟨va_cnB _ hts (z_ws_in hy2) rfl rfl rfl hnest (hts _ hF2) ⟨hF6, hF7, hF8⟩ ⟨hfr, hlo⟩, hts _ (hF3 hns), trivial⟩ ⟨z_W.blind, fun U hU hW => ⟨rfl, z_W.go hP hK hC hD hSs hU hW⟩⟩ rfl (by rw [List.length_map]; exact hlr) hsz rfl (lv_room (by rw [z_cat_spec]; exact hcat)) hd ⟨Nat.le_refl _, Nat.le_refl _⟩) hSs (fun rr hh H1 locs1 hP1 hv1 hq1 hS1 => ?_)
        have e1 : (rr.map (z_cv cx)).toList ++ r.map (z_cv cx) = (rr.toList ++ r).map (z_cv cx) := by cases rr <;> rfl
        rw [e1]
        exact gc hq1 hlen hS1 hP1 hL (z_vo hv1 hvr)
      · rename_i hm
        rw [hm] at hck hr
        have hlink := of_decide_eq_true hck
        rw [hk] at hlink
        simp only [z_okr, Bool.and_true, Bool.and_eq_true] at hr
        have hlo := Nat.le_of_ble_eq_true hr.1
        have hfr := Nat.le_of_ble_eq_true hr.2
        have hw0 := hw
        clear hw
        obtain ⟨b, a, r, rfl, hw⟩ := z_invII (P := fun y x r => match Nat.ble (z_cat r) 8 with
          | true => nx L (.inl (if x < y then y else x) :: r) h
          | false => False) hw0
        clear hw0
        obtain ⟨hc8, hw⟩ := z_invB hw
        have hc8 := Nat.le_of_ble_eq_true hc8
        exact va_mmax hx hb (by rw [hml, hL.1.1]; exact hlen.symm) hown (hts _ (zTG_of hlink rfl)) (hts _ (zTG_of z_math_ok.2.1 rfl)) (hts _ (zTG_of z_math_ok.1 rfl)) (hts _ (zTG_of z_math_ok.2.2.1 rfl)) hfr (by rw [z_cat_spec]; show _ ≤ (z_m y).2.2.2.2.1.2.2; omega) (Nat.zero_le _) (Nat.zero_le _) hd (go (st' := .inl _ :: r) hw hlen hSs hP hL (z_vc trivial (z_vt (z_vt hS))))
      · rename_i hm
        rw [hm] at hck hr
        have hlink := of_decide_eq_true hck
        rw [hk] at hlink
        simp only [z_okr, Bool.and_true, Bool.and_eq_true] at hr
        have hlo := Nat.le_of_ble_eq_true hr.1
        have hfr := Nat.le_of_ble_eq_true hr.2
        have hw0 := hw
        clear hw
        obtain ⟨b, a, r, rfl, hw⟩ := z_invII (P := fun y x r => match Nat.ble (z_cat r) 8 with
          | true => nx L (.inl (if y < x then y else x) :: r) h
          | false => False) hw0
        clear hw0
        obtain ⟨hc8, hw⟩ := z_invB hw
        have hc8 := Nat.le_of_ble_eq_true hc8
        exact va_mmin hx hb (by rw [hml, hL.1.1]; exact hlen.symm) hown (hts _ (zTG_of hlink rfl)) (hts _ (zTG_of z_math_ok.2.2.2.1 rfl)) (hts _ (zTG_of z_math_ok.1 rfl)) (hts _ (zTG_of z_math_ok.2.2.2.2 rfl)) hfr (by rw [z_cat_spec]; show _ ≤ (z_m y).2.2.2.2.1.2.2; omega) (Nat.zero_le _) (Nat.zero_le _) hd (go (st' := .inl _ :: r) hw hlen hSs hP hL (z_vc trivial (z_vt (z_vt hS))))
      · exact False.elim hw
