/-! ===== tables, derived ===== -/
theorem z_m_mem {y : Nat} (hy : y < 247) : z_m y ∈ z_ms := by
  unfold z_m
  rw [List.getD_eq_getElem?_getD, List.getElem?_eq_getElem (by rw [z_ms_len]; exact hy)]
  exact List.getElem_mem _
theorem z_good_code {y : MethodName} {b : ByteArray} {n : Nat} {r : Option FieldType} : goodWord (Cond.code y b n r) = true := rfl
/-- what is known of a method by its number -/
def z_MF (y : Nat) : Prop := Cond.code (z_m y).1 (z_m y).2.1 (z_m y).2.2.1 (z_m y).2.2.2.1 ∈ zTG ∧ Cond.initialized (z_m y).1.cls ∈ zTG ∧
  ((z_m y).2.2.2.2.2.1.1 = true → Cond.static (z_m y).1 ∈ zTG) ∧ ((z_m y).2.2.2.2.2.1.1 = false → Cond.instanceMethod (z_m y).1 ∈ zTG ∧ Cond.selects (z_m y).1.cls (z_m y).1 (z_m y).1 ∈ zTG) ∧
  plainName (z_m y).1.cls = true ∧ (z_m y).1.cls ≠ "java/lang/invoke/MethodHandle" ∧ (z_m y).1.cls ≠ "java/lang/invoke/VarHandle" ∧ (parseMethodDescriptor (z_m y).1.desc).map (fun d => d.parameters.length) = some (z_m y).2.2.2.2.2.1.2 ∧ z_cn (z_m y).2.2.2.2.1.1 = (z_m y).1.cls
theorem z_mf {y : Nat} (hy : y < 247) : z_MF y := by
  have h := List.all_eq_true.mp z_chkM_ok (z_m y) (z_m_mem hy)
  unfold z_chkM at h
  simp only [Bool.and_eq_true, decide_eq_true_eq] at h
  obtain ⟨⟨⟨⟨⟨⟨h2, h3⟩, h4⟩, h5⟩, h6⟩, h7⟩, h8⟩ := h
  have h1 : lw_tbl[(z_m y).2.2.2.2.2.2.1]? = some (Cond.code (z_m y).1 (z_m y).2.1 (z_m y).2.2.1 (z_m y).2.2.2.1) := z_map_eq z_cwk (z_m y) (z_m_mem hy)
  refine ⟨zTG_of h1 rfl, zTG_of h2 rfl, fun hs => ?_, fun hs => ?_, h4, h5, h6, h7, h8⟩
  · rw [hs] at h3
    simp only [if_true, decide_eq_true_eq] at h3
    exact zTG_of h3 rfl
  · rw [hs] at h3
    simp only [Bool.false_eq_true, if_false, Bool.and_eq_true, decide_eq_true_eq] at h3
    exact ⟨zTG_of h3.1 rfl, zTG_of h3.2 rfl⟩
theorem z_ws_in {y : Nat} (hy : y < 247) : GoodIn zTG (z_ws y) := by
  intro w hw
  rcases List.mem_cons.mp hw with h | h
  · subst h
    exact zTG_in _ (z_mf hy).1
  · exact zTG_in _ h
theorem z_row {α : Type} {L : List (List α)} {f : Nat → α → Bool} (hl : L.length = 17) (h : ((List.range 17).all fun o => (L.getD o []).all (f o)) = true) {o : Nat} {q : α} (hq : q ∈ L.getD o []) : f o q = true := by
  have ho : o < 17 := by
    rcases Nat.lt_or_ge o 17 with h1 | h1
    · exact h1
    · rw [List.getD_eq_getElem?_getD, List.getElem?_eq_none (by omega)] at hq
      simp at hq
  have h1 := List.all_eq_true.mp h o (List.mem_range.mpr ho)
  exact List.all_eq_true.mp h1 q hq
theorem z_find_mem {α : Type} {l : List α} {p : α → Bool} {q : α} (h : l.find? p = some q) : q ∈ l ∧ p q = true := ⟨List.mem_of_find?_eq_some h, List.find?_some h⟩
/-! ===== the constants go on ===== -/
theorem z_C.go {cx : zX} {U U' : State} (hC : z_C cx U) (hW : U.WarmedH U'.vm) (hk : ∀ a : Nat, a < U.heap.size → ¬ z_A cx a → U'.heap[a]? = U.heap[a]?) : z_C cx U' := by
  obtain ⟨h1, h2, h3, h4, h5, h6, h7, h8, h9⟩ := hC
  refine ⟨(h1.moved hW.alike).kept hk, (h2.moved hW.alike).kept hk, (h3.moved hW.alike).kept hk, (h4.moved hW.alike).kept hk, (h5.moved hW.alike).kept hk, fun i hi => ((h6 i hi).moved hW.alike).kept hk, fun o r hr hm => (h7 o r hr hm).warmM hW, h8.warmF hW, fun o r hr => (h9 o r hr).warm hW⟩
theorem z_W.go {cx : zX} {h : zH} {s U : State} {H : Heap} {locs : List Loc} (hP : z_P cx h H) (hK : va_K cx.1 zcl (z_tys cx) s) (hC : z_C cx s) (hD : z_D cx) (hS : va_S (z_A cx) s.heap H locs) (hU : U.heap = H) (hW : s.WarmedH U.vm) : z_W cx h U :=
  ⟨by rw [hU]; exact hP, va_K.moved hW.alike hK, hC.go hW (fun a h1 h2 => by rw [hU]; exact hS.2.1 a h1 h2), hD⟩
theorem z_W.blind {cx : zX} {h : zH} {as : List Value} : FrameBlind (va_Pc as (z_W cx h)) := by
  intro a U g mk hp
  obtain ⟨h1, h2, h3, h4, h5⟩ := hp
  refine ⟨h1, h2, va_K.moved (u := U) (U := U.calling g mk a) (Vm.Alike.refl U.vm) h3, h4.go (U' := U.calling g mk a) (State.WarmedH.refl U) (fun _ _ _ => rfl), h5⟩
/-! ===== locals ===== -/
def z_al (cx : zX) (L : zL) : List (Nat × Value) := (List.range L.length).filterMap (fun i => (L[i]?.join).map (fun v => (i, z_cv cx v)))
theorem z_al_mem {cx : zX} {L : zL} {q : Nat × Value} : q ∈ z_al cx L ↔ ∃ v, L[q.1]? = some (some v) ∧ q.2 = z_cv cx v := by
  unfold z_al
  rw [List.mem_filterMap]
  constructor
  · rintro ⟨i, hi, h⟩
    cases hL : L[i]? with
    | none => rw [hL] at h; simp at h
    | some o =>
      cases o with
      | none => rw [hL] at h; simp at h
      | some v =>
        rw [hL] at h
        simp at h
        subst h
        exact ⟨v, hL, rfl⟩
  · rintro ⟨v, hv, h2⟩
    have hl := (List.getElem?_eq_some_iff.mp hv).1
    refine ⟨q.1, List.mem_range.mpr hl, ?_⟩
    rw [hv]
    obtain ⟨a, b⟩ := q
    simp at h2
    simp [h2]
theorem z_LR.at {cx : zX} {L : zL} {ls : Array Slot} (h : z_LR cx L ls) {i : Nat} {v : zV} (hv : L[i]? = some (some v)) : ls[i]? = some (.val (z_cv cx v)) :=
  h.1.2.2 (i, z_cv cx v) (z_al_mem.mpr ⟨v, hv, rfl⟩)
theorem z_LR.mk {cx : zX} {L L' : zL} {ls' : Array Slot} {lv : List (Nat × Value)} (hl : lv_has ls' L.length lv) (hn : L'.length = L.length) (hin : ∀ q ∈ z_al cx L', q ∈ lv) (hv : ∀ (i : Nat) (v : zV), L'[i]? = some (some v) → z_vv cx v) : z_LR cx L' ls' := by
  refine ⟨⟨by rw [hn]; exact hl.1, hl.2.1, fun q hq => hl.2.2 q (hin q hq)⟩, hv⟩
theorem z_clr_some {o : Option zV} {w : zV} (h : z_clr o = some w) : o = some w ∧ ∀ x, w ≠ .inr (.inl x) := by
  cases o with
  | none => cases h
  | some v =>
    obtain a | b | c := v
    · cases h; exact ⟨rfl, fun x e => by cases e⟩
    · cases h
    · cases h; exact ⟨rfl, fun x e => by cases e⟩
theorem z_s1_len : ∀ (L : zL) (i : Nat) (v : zV), (z_s1 L i v).length = L.length
  | [], i, v => by simp [z_s1]
  | o :: t, 0, v => by simp [z_s1]
  | o :: t, 1, v => by simp [z_s1, z_s1_len t 0 v]
  | o :: t, n + 2, v => by simp [z_s1, z_s1_len t (n + 1) v]
theorem z_s2_len : ∀ (L : zL) (i : Nat) (v : zV), (z_s2 L i v).length = L.length
  | [], i, v => by simp [z_s2]
  | o :: t, 0, v => by cases t <;> simp [z_s2, z_h2]
  | o :: t, 1, v => by simp [z_s2, z_s2_len t 0 v]
  | o :: t, n + 2, v => by simp [z_s2, z_s2_len t (n + 1) v]
theorem z_s1_get : ∀ (L : zL) (i : Nat) (v : zV) (j : Nat) (w : zV), (z_s1 L i v)[j]? = some (some w) → (j = i ∧ w = v) ∨ (j ≠ i ∧ L[j]? = some (some w) ∧ ∀ x, j + 1 = i → w ≠ .inr (.inl x))
  | [], i, v, j, w, h => by simp [z_s1] at h
  | o :: t, 0, v, j, w, h => by
    cases j with
    | zero => simp [z_s1] at h; exact Or.inl ⟨rfl, h.symm⟩
    | succ j => simp [z_s1] at h; exact Or.inr ⟨by omega, by simpa using h, fun x e => by omega⟩
  | o :: t, 1, v, j, w, h => by
    cases j with
    | zero =>
      simp [z_s1] at h
      obtain ⟨h1, h2⟩ := z_clr_some h
      exact Or.inr ⟨by omega, by simp [h1], fun x _ => h2 x⟩
    | succ j =>
      simp only [z_s1, List.getElem?_cons_succ] at h
      rcases z_s1_get t 0 v j w h with ⟨h1, h2⟩ | ⟨h1, h2, h3⟩
      · exact Or.inl ⟨by omega, h2⟩
      · exact Or.inr ⟨by omega, by simpa using h2, fun x e => by omega⟩
  | o :: t, n + 2, v, j, w, h => by
    cases j with
    | zero => simp [z_s1] at h; exact Or.inr ⟨by omega, by simp [h], fun x e => by omega⟩
    | succ j =>
      simp only [z_s1, List.getElem?_cons_succ] at h
      rcases z_s1_get t (n + 1) v j w h with ⟨h1, h2⟩ | ⟨h1, h2, h3⟩
      · exact Or.inl ⟨by omega, h2⟩
      · exact Or.inr ⟨by omega, by simpa using h2, fun x e => h3 x (by omega)⟩
theorem z_s2_get : ∀ (L : zL) (i : Nat) (v : zV) (j : Nat) (w : zV), (z_s2 L i v)[j]? = some (some w) → (j = i ∧ w = v) ∨ (j ≠ i ∧ j ≠ i + 1 ∧ L[j]? = some (some w) ∧ ∀ x, j + 1 = i → w ≠ .inr (.inl x))
  | [], i, v, j, w, h => by simp [z_s2] at h
  | o :: t, 0, v, j, w, h => by
    cases j with
    | zero => simp [z_s2] at h; exact Or.inl ⟨rfl, h.symm⟩
    | succ j =>
      simp only [z_s2, List.getElem?_cons_succ] at h
      cases t with
      | nil => simp [z_h2] at h
      | cons a t =>
        cases j with
        | zero => simp [z_h2] at h
        | succ j => simp [z_h2] at h; exact Or.inr ⟨by omega, by omega, by simpa using h, fun x e => by omega⟩
  | o :: t, 1, v, j, w, h => by
    cases j with
    | zero =>
      simp [z_s2] at h
      obtain ⟨h1, h2⟩ := z_clr_some h
      exact Or.inr ⟨by omega, by omega, by simp [h1], fun x _ => h2 x⟩
    | succ j =>
      simp only [z_s2, List.getElem?_cons_succ] at h
      rcases z_s2_get t 0 v j w h with ⟨h1, h2⟩ | ⟨h1, h2, h3, h4⟩
      · exact Or.inl ⟨by omega, h2⟩
      · exact Or.inr ⟨by omega, by omega, by simpa using h3, fun x e => by omega⟩
  | o :: t, n + 2, v, j, w, h => by
    cases j with
    | zero => simp [z_s2] at h; exact Or.inr ⟨by omega, by omega, by simp [h], fun x e => by omega⟩
    | succ j =>
      simp only [z_s2, List.getElem?_cons_succ] at h
      rcases z_s2_get t (n + 1) v j w h with ⟨h1, h2⟩ | ⟨h1, h2, h3, h4⟩
      · exact Or.inl ⟨by omega, h2⟩
      · exact Or.inr ⟨by omega, by omega, by simpa using h3, fun x e => h4 x (by omega)⟩
theorem z_cat_cv (cx : zX) (w : zV) : (∀ x, w ≠ .inr (.inl x)) → (z_cv cx w).category = 1 := by
  intro h
  obtain a | b | c := w
  · rfl
  · exact absurd rfl (h b)
  · show (if c.1 = 3 then va_rf cx.2.2.2.1 else Value.ref (cx.2.1 c)).category = 1
    by_cases h3 : c.1 = 3
    · rw [if_pos h3]
      cases cx.2.2.2.1 <;> rfl
    · rw [if_neg h3]
      rfl
theorem z_LR.s1 {cx : zX} {L : zL} {ls ls' : Array Slot} {i : Nat} {v : zV} (h : z_LR cx L ls) (hv : z_vv cx v) (hl : lv_has ls' L.length ((i, z_cv cx v) :: (z_al cx L).filter (fun q => !(q.1 == i) && !(q.1 + 1 == i && q.2.category == 2)))) : z_LR cx (z_s1 L i v) ls' := by
  refine z_LR.mk hl (z_s1_len L i v) (fun q hq => ?_) (fun j w hw => ?_)
  · obtain ⟨w, h1, h2⟩ := z_al_mem.mp hq
    rcases z_s1_get L i v q.1 w h1 with ⟨e1, e2⟩ | ⟨e1, e2, e3⟩
    · refine List.mem_cons.mpr (Or.inl ?_)
      obtain ⟨a, b⟩ := q
      simp at e1 h2
      subst e1
      rw [h2, e2]
    · refine List.mem_cons.mpr (Or.inr (List.mem_filter.mpr ⟨z_al_mem.mpr ⟨w, e2, h2⟩, ?_⟩))
      have h3 : (q.1 == i) = false := by simpa using e1
      by_cases h4 : q.1 + 1 = i
      · have h5 := z_cat_cv cx w (fun x => e3 x h4)
        rw [← h2] at h5
        simp [h3, h5]
      · simp [h3, h4]
  · rcases z_s1_get L i v j w hw with ⟨_, e2⟩ | ⟨_, e2, _⟩
    · rw [e2]; exact hv
    · exact h.2 j w e2
theorem z_LR.s2 {cx : zX} {L : zL} {ls ls' : Array Slot} {i : Nat} {v : zV} (h : z_LR cx L ls) (hv : z_vv cx v) (hl : lv_has ls' L.length ((i, z_cv cx v) :: (z_al cx L).filter (fun q => !(q.1 == i) && (!(q.1 == i + 1) && !(q.1 + 1 == i && q.2.category == 2))))) : z_LR cx (z_s2 L i v) ls' := by
  refine z_LR.mk hl (z_s2_len L i v) (fun q hq => ?_) (fun j w hw => ?_)
  · obtain ⟨w, h1, h2⟩ := z_al_mem.mp hq
    rcases z_s2_get L i v q.1 w h1 with ⟨e1, e2⟩ | ⟨e1, e0, e2, e3⟩
    · refine List.mem_cons.mpr (Or.inl ?_)
      obtain ⟨a, b⟩ := q
      simp at e1 h2
      subst e1
      rw [h2, e2]
    · refine List.mem_cons.mpr (Or.inr (List.mem_filter.mpr ⟨z_al_mem.mpr ⟨w, e2, h2⟩, ?_⟩))
      have h3 : (q.1 == i) = false := by simpa using e1
      have h30 : (q.1 == i + 1) = false := by simpa using e0
      by_cases h4 : q.1 + 1 = i
      · have h5 := z_cat_cv cx w (fun x => e3 x h4)
        rw [← h2] at h5
        simp [h3, h30, h5]
      · simp [h3, h30, h4]
  · rcases z_s2_get L i v j w hw with ⟨_, e2⟩ | ⟨_, _, e2, _⟩
    · rw [e2]; exact hv
    · exact h.2 j w e2
theorem z_mask_len : ∀ (m : List Bool) (L : zL), m.length = L.length → (z_mask m L).length = L.length
  | [], [], _ => rfl
  | [], _ :: _, h => by simp at h
  | _ :: _, [], h => by simp at h
  | true :: m, o :: t, h => by simp [z_mask, z_mask_len m t (by simpa using h)]
  | false :: m, o :: t, h => by simp [z_mask, z_mask_len m t (by simpa using h)]
theorem z_mask_get : ∀ (m : List Bool) (L : zL) (j : Nat) (w : zV), (z_mask m L)[j]? = some (some w) → L[j]? = some (some w)
  | [], L, j, w, h => by simp [z_mask] at h
  | _ :: _, [], j, w, h => by simp [z_mask] at h
  | true :: m, o :: t, j, w, h => by
    cases j with
    | zero => simpa [z_mask] using h
    | succ j => simp only [z_mask, List.getElem?_cons_succ] at h; simpa using z_mask_get m t j w h
  | false :: m, o :: t, j, w, h => by
    cases j with
    | zero => simp [z_mask] at h
    | succ j => simp only [z_mask, List.getElem?_cons_succ] at h; simpa using z_mask_get m t j w h
theorem z_LR.mask {cx : zX} {L : zL} {ls : Array Slot} {m : List Bool} (h : z_LR cx L ls) (hm : m.length = L.length) : z_LR cx (z_mask m L) ls := by
  have h1 := z_mask_len m L hm
  refine ⟨⟨by rw [h1]; exact h.1.1, h.1.2.1, fun q hq => ?_⟩, fun i v hv => h.2 i v (z_mask_get m L i v hv)⟩
  obtain ⟨v, h2, h3⟩ := z_al_mem.mp hq
  rw [h3]
  exact h.at (z_mask_get m L q.1 v h2)
/-- entry: the arguments become locals -/
def z_ent : List zV → zL
  | [] => []
  | .inr (.inl x) :: t => some (.inr (.inl x)) :: none :: z_ent t
  | v :: t => some v :: z_ent t
def z_pad (L : zL) (n : Nat) : zL := L ++ List.replicate (n - L.length) none
theorem z_cv_cat2 (cx : zX) (x : Int64) : (z_cv cx (.inr (.inl x))).category = 2 := rfl
theorem z_ent_mem (cx : zX) : ∀ (as : List zV) (b j : Nat) (w : zV), (z_ent as)[j]? = some (some w) → (b + j, z_cv cx w) ∈ lv_args b (as.map (z_cv cx)) ∧ w ∈ as
  | [], b, j, w, h => by simp [z_ent] at h
  | .inr (.inl x) :: t, b, j, w, h => by
    simp only [z_ent] at h
    simp only [List.map_cons, lv_args, z_cv_cat2, if_true]
    match j, h with
    | 0, h => simp at h; subst h; exact ⟨List.mem_cons_self, List.mem_cons_self⟩
    | 1, h => simp at h
    | j + 2, h =>
      simp only [List.getElem?_cons_succ] at h
      have h1 := z_ent_mem cx t (b + 2) j w h
      rw [show b + 2 + j = b + (j + 2) by omega] at h1
      exact ⟨List.mem_cons_of_mem _ h1.1, List.mem_cons_of_mem _ h1.2⟩
  | .inl x :: t, b, j, w, h => by
    simp only [z_ent] at h
    have hc : (z_cv cx (.inl x)).category = 1 := rfl
    simp only [List.map_cons, lv_args, hc]
    match j, h with
    | 0, h => simp at h; subst h; exact ⟨List.mem_cons_self, List.mem_cons_self⟩
    | j + 1, h =>
      simp only [List.getElem?_cons_succ] at h
      have h1 := z_ent_mem cx t (b + 1) j w h
      rw [show b + 1 + j = b + (j + 1) by omega] at h1
      exact ⟨List.mem_cons_of_mem _ h1.1, List.mem_cons_of_mem _ h1.2⟩
  | .inr (.inr x) :: t, b, j, w, h => by
    simp only [z_ent] at h
    have hc : (z_cv cx (.inr (.inr x))).category = 1 := z_cat_cv cx _ (fun y e => by cases e)
    simp only [List.map_cons, lv_args, hc]
    match j, h with
    | 0, h => simp at h; subst h; exact ⟨List.mem_cons_self, List.mem_cons_self⟩
    | j + 1, h =>
      simp only [List.getElem?_cons_succ] at h
      have h1 := z_ent_mem cx t (b + 1) j w h
      rw [show b + 1 + j = b + (j + 1) by omega] at h1
      exact ⟨List.mem_cons_of_mem _ h1.1, List.mem_cons_of_mem _ h1.2⟩
theorem z_ent_len (cx : zX) : ∀ (as : List zV), (lg_sl (as.map (z_cv cx))).length = (z_ent as).length
  | [] => rfl
  | .inr (.inl x) :: t => by
    have h := z_ent_len cx t
    simp only [lg_sl, List.map_cons, List.flatMap_cons, z_cv_cat2, if_true, List.length_append, z_ent, List.length_cons] at h ⊢
    simp [h]; omega
  | .inl x :: t => by
    have h := z_ent_len cx t
    have hc : (z_cv cx (.inl x)).category = 1 := rfl
    simp only [lg_sl, List.map_cons, List.flatMap_cons, hc, List.length_append, z_ent, List.length_cons] at h ⊢
    simp [h]; omega
  | .inr (.inr x) :: t => by
    have h := z_ent_len cx t
    have hc : (z_cv cx (.inr (.inr x))).category = 1 := z_cat_cv cx _ (fun y e => by cases e)
    simp only [lg_sl, List.map_cons, List.flatMap_cons, hc, List.length_append, z_ent, List.length_cons] at h ⊢
    simp [h]; omega
theorem z_pad_get {L : zL} {n j : Nat} {w : zV} (h : (z_pad L n)[j]? = some (some w)) : L[j]? = some (some w) := by
  unfold z_pad at h
  rcases Nat.lt_or_ge j L.length with h1 | h1
  · rwa [List.getElem?_append_left h1] at h
  · rw [List.getElem?_append_right h1] at h
    simp [List.getElem?_replicate] at h
theorem z_pad_len {L : zL} {n : Nat} (h : L.length ≤ n) : (z_pad L n).length = n := by
  unfold z_pad
  simp
  omega
theorem z_LR.entry {cx : zX} {as : List zV} {n : Nat} (hn : (z_ent as).length ≤ n) (hv : ∀ v ∈ as, z_vv cx v) : z_LR cx (z_pad (z_ent as) n) ((lg_sl (as.map (z_cv cx)) ++ List.replicate (n - (lg_sl (as.map (z_cv cx))).length) Slot.unset).toArray) := by
  have h0 := z_ent_len cx as
  have h := lv_entry (as.map (z_cv cx)) (n := n) (by rw [h0]; exact hn)
  have h1 := z_pad_len hn
  refine ⟨⟨by rw [h1]; exact h.1, h.2.1, fun q hq => ?_⟩, fun i v hi => hv v (z_ent_mem cx as 0 i v (z_pad_get hi)).2⟩
  obtain ⟨v, h2, h3⟩ := z_al_mem.mp hq
  have h4 := (z_ent_mem cx as 0 q.1 v (z_pad_get h2)).1
  rw [Nat.zero_add, ← h3] at h4
  exact h.2.2 q h4
/-- a method's contract out of its body's -/
theorem zOk.of {y : Nat} {as : List zV} {h : zH} {Q : Option zV → zH → Prop} (hy : y < 247) (hn : (z_ent as).length ≤ (z_m y).2.2.1) (k : zAt y 0 (z_pad (z_ent as) (z_m y).2.2.1) [] h Q) : zOk y as h Q := by
  intro cx l hv
  refine Met.ofW (cc := (z_m y).2.1) (maxL := (z_m y).2.2.1) (ret := (z_m y).2.2.2.1) (z_mf hy).2.2.2.2.1 rfl ?_
  intro p e s m args below meth c s₁ B hml hp
  obtain ⟨rfl, hP, hK, hC, hD⟩ := hp
  have hts := atoms_spec (ws := z_ws y) B.pre
  rw [lg_entry_eq]
  exact k (z_pad_len hn) cx p l e s m _ below meth c s.heap [] _ ⟨B.exec, B.bytes, B.returns, hml, findClass_of_methodNamed B.named, fun w hw => hts w (List.mem_cons_of_mem _ hw), B.notSynchronized, hK, hC, hD, va_S.rf⟩ hP (z_LR.entry hn hv) (fun v h => by cases h)
