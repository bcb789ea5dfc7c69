theorem z_invI {P : Int32 → List zV → Prop} : ∀ {st : List zV}, (match st with
    | .inl x :: r => P x r
    | _ => False) → ∃ (x : Int32) (r : List zV), st = .inl x :: r ∧ P x r
  | .inl x :: r, h => ⟨x, r, rfl, h⟩
  | [], h => False.elim h
  | .inr (.inl _) :: _, h => False.elim h
  | .inr (.inr _) :: _, h => False.elim h
theorem z_invII {P : Int32 → Int32 → List zV → Prop} : ∀ {st : List zV}, (match st with
    | .inl y :: .inl x :: r => P y x r
    | _ => False) → ∃ (y : Int32) (x : Int32) (r : List zV), st = .inl y :: .inl x :: r ∧ P y x r
  | .inl y :: .inl x :: r, h => ⟨y, x, r, rfl, h⟩
  | [], h => False.elim h
  | .inr (.inl _) :: _, h => False.elim h
  | .inr (.inr _) :: _, h => False.elim h
  | [.inl _], h => False.elim h
  | .inl _ :: .inr (.inl _) :: _, h => False.elim h
  | .inl _ :: .inr (.inr _) :: _, h => False.elim h
theorem z_invL {P : Int64 → List zV → Prop} : ∀ {st : List zV}, (match st with
    | .inr (.inl x) :: r => P x r
    | _ => False) → ∃ (x : Int64) (r : List zV), st = .inr (.inl x) :: r ∧ P x r
  | .inr (.inl x) :: r, h => ⟨x, r, rfl, h⟩
  | [], h => False.elim h
  | .inl _ :: _, h => False.elim h
  | .inr (.inr _) :: _, h => False.elim h
theorem z_invLL {P : Int64 → Int64 → List zV → Prop} : ∀ {st : List zV}, (match st with
    | .inr (.inl y) :: .inr (.inl x) :: r => P y x r
    | _ => False) → ∃ (y : Int64) (x : Int64) (r : List zV), st = .inr (.inl y) :: .inr (.inl x) :: r ∧ P y x r
  | .inr (.inl y) :: .inr (.inl x) :: r, h => ⟨y, x, r, rfl, h⟩
  | [], h => False.elim h
  | .inl _ :: _, h => False.elim h
  | .inr (.inr _) :: _, h => False.elim h
  | [.inr (.inl _)], h => False.elim h
  | .inr (.inl _) :: .inl _ :: _, h => False.elim h
  | .inr (.inl _) :: .inr (.inr _) :: _, h => False.elim h
theorem z_invIL {P : Int32 → Int64 → List zV → Prop} : ∀ {st : List zV}, (match st with
    | .inl y :: .inr (.inl x) :: r => P y x r
    | _ => False) → ∃ (y : Int32) (x : Int64) (r : List zV), st = .inl y :: .inr (.inl x) :: r ∧ P y x r
  | .inl y :: .inr (.inl x) :: r, h => ⟨y, x, r, rfl, h⟩
  | [], h => False.elim h
  | .inr (.inl _) :: _, h => False.elim h
  | .inr (.inr _) :: _, h => False.elim h
  | [.inl _], h => False.elim h
  | .inl _ :: .inl _ :: _, h => False.elim h
  | .inl _ :: .inr (.inr _) :: _, h => False.elim h
theorem z_invR {P : zR → List zV → Prop} : ∀ {st : List zV}, (match st with
    | .inr (.inr q) :: r => P q r
    | _ => False) → ∃ (q : zR) (r : List zV), st = .inr (.inr q) :: r ∧ P q r
  | .inr (.inr q) :: r, h => ⟨q, r, rfl, h⟩
  | [], h => False.elim h
  | .inl _ :: _, h => False.elim h
  | .inr (.inl _) :: _, h => False.elim h
theorem z_invIR {P : Int32 → zR → List zV → Prop} : ∀ {st : List zV}, (match st with
    | .inl x :: .inr (.inr q) :: r => P x q r
    | _ => False) → ∃ (x : Int32) (q : zR) (r : List zV), st = .inl x :: .inr (.inr q) :: r ∧ P x q r
  | .inl x :: .inr (.inr q) :: r, h => ⟨x, q, r, rfl, h⟩
  | [], h => False.elim h
  | .inr (.inl _) :: _, h => False.elim h
  | .inr (.inr _) :: _, h => False.elim h
  | [.inl _], h => False.elim h
  | .inl _ :: .inl _ :: _, h => False.elim h
  | .inl _ :: .inr (.inl _) :: _, h => False.elim h
theorem z_invIIR {P : Int32 → Int32 → zR → List zV → Prop} : ∀ {st : List zV}, (match st with
    | .inl v :: .inl x :: .inr (.inr q) :: r => P v x q r
    | _ => False) → ∃ (v : Int32) (x : Int32) (q : zR) (r : List zV), st = .inl v :: .inl x :: .inr (.inr q) :: r ∧ P v x q r
  | .inl v :: .inl x :: .inr (.inr q) :: r, h => ⟨v, x, q, r, rfl, h⟩
  | [], h => False.elim h
  | .inr (.inl _) :: _, h => False.elim h
  | .inr (.inr _) :: _, h => False.elim h
  | [.inl _], h => False.elim h
  | .inl _ :: .inr (.inl _) :: _, h => False.elim h
  | .inl _ :: .inr (.inr _) :: _, h => False.elim h
  | [.inl _, .inl _], h => False.elim h
  | .inl _ :: .inl _ :: .inl _ :: _, h => False.elim h
  | .inl _ :: .inl _ :: .inr (.inl _) :: _, h => False.elim h
theorem z_invLIR {P : Int64 → Int32 → zR → List zV → Prop} : ∀ {st : List zV}, (match st with
    | .inr (.inl v) :: .inl x :: .inr (.inr q) :: r => P v x q r
    | _ => False) → ∃ (v : Int64) (x : Int32) (q : zR) (r : List zV), st = .inr (.inl v) :: .inl x :: .inr (.inr q) :: r ∧ P v x q r
  | .inr (.inl v) :: .inl x :: .inr (.inr q) :: r, h => ⟨v, x, q, r, rfl, h⟩
  | [], h => False.elim h
  | .inl _ :: _, h => False.elim h
  | .inr (.inr _) :: _, h => False.elim h
  | [.inr (.inl _)], h => False.elim h
  | .inr (.inl _) :: .inr (.inl _) :: _, h => False.elim h
  | .inr (.inl _) :: .inr (.inr _) :: _, h => False.elim h
  | [.inr (.inl _), .inl _], h => False.elim h
  | .inr (.inl _) :: .inl _ :: .inl _ :: _, h => False.elim h
  | .inr (.inl _) :: .inl _ :: .inr (.inl _) :: _, h => False.elim h
theorem z_invRIR {P : zR → Int32 → zR → List zV → Prop} : ∀ {st : List zV}, (match st with
    | .inr (.inr v) :: .inl x :: .inr (.inr q) :: r => P v x q r
    | _ => False) → ∃ (v : zR) (x : Int32) (q : zR) (r : List zV), st = .inr (.inr v) :: .inl x :: .inr (.inr q) :: r ∧ P v x q r
  | .inr (.inr v) :: .inl x :: .inr (.inr q) :: r, h => ⟨v, x, q, r, rfl, h⟩
  | [], h => False.elim h
  | .inl _ :: _, h => False.elim h
  | .inr (.inl _) :: _, h => False.elim h
  | [.inr (.inr _)], h => False.elim h
  | .inr (.inr _) :: .inr (.inl _) :: _, h => False.elim h
  | .inr (.inr _) :: .inr (.inr _) :: _, h => False.elim h
  | [.inr (.inr _), .inl _], h => False.elim h
  | .inr (.inr _) :: .inl _ :: .inl _ :: _, h => False.elim h
  | .inr (.inr _) :: .inl _ :: .inr (.inl _) :: _, h => False.elim h
theorem z_invVR {P : zV → zR → List zV → Prop} : ∀ {st : List zV}, (match st with
    | v :: .inr (.inr q) :: r => P v q r
    | _ => False) → ∃ (v : zV) (q : zR) (r : List zV), st = v :: .inr (.inr q) :: r ∧ P v q r
  | v :: .inr (.inr q) :: r, h => ⟨v, q, r, rfl, h⟩
  | [], h => False.elim h
  | [_], h => False.elim h
  | _ :: .inl _ :: _, h => False.elim h
  | _ :: .inr (.inl _) :: _, h => False.elim h
theorem z_invSi {P : Int32 → Prop} : ∀ {st : List zV}, (match st with
    | [.inl x] => P x
    | _ => False) → ∃ x, st = [.inl x] ∧ P x
  | [.inl x], h => ⟨x, rfl, h⟩
  | [], h => False.elim h
  | [.inr (.inl _)], h => False.elim h
  | [.inr (.inr _)], h => False.elim h
  | .inl _ :: _ :: _, h => False.elim h
  | .inr (.inl _) :: _ :: _, h => False.elim h
  | .inr (.inr _) :: _ :: _, h => False.elim h
theorem z_invGi {P : Int32 → Prop} : ∀ {o : Option (Option zV)}, (match o with
    | some (some (.inl x)) => P x
    | _ => False) → ∃ x, o = some (some (.inl x)) ∧ P x
  | some (some (.inl x)), h => ⟨x, rfl, h⟩
  | none, h => False.elim h
  | some none, h => False.elim h
  | some (some (.inr (.inl _))), h => False.elim h
  | some (some (.inr (.inr _))), h => False.elim h
theorem z_invSl {P : Int64 → Prop} : ∀ {st : List zV}, (match st with
    | [.inr (.inl x)] => P x
    | _ => False) → ∃ x, st = [.inr (.inl x)] ∧ P x
  | [.inr (.inl x)], h => ⟨x, rfl, h⟩
  | [], h => False.elim h
  | [.inl _], h => False.elim h
  | [.inr (.inr _)], h => False.elim h
  | .inl _ :: _ :: _, h => False.elim h
  | .inr (.inl _) :: _ :: _, h => False.elim h
  | .inr (.inr _) :: _ :: _, h => False.elim h
theorem z_invGl {P : Int64 → Prop} : ∀ {o : Option (Option zV)}, (match o with
    | some (some (.inr (.inl x))) => P x
    | _ => False) → ∃ x, o = some (some (.inr (.inl x))) ∧ P x
  | some (some (.inr (.inl x))), h => ⟨x, rfl, h⟩
  | none, h => False.elim h
  | some none, h => False.elim h
  | some (some (.inl _)), h => False.elim h
  | some (some (.inr (.inr _))), h => False.elim h
theorem z_invSa {P : zR → Prop} : ∀ {st : List zV}, (match st with
    | [.inr (.inr x)] => P x
    | _ => False) → ∃ x, st = [.inr (.inr x)] ∧ P x
  | [.inr (.inr x)], h => ⟨x, rfl, h⟩
  | [], h => False.elim h
  | [.inl _], h => False.elim h
  | [.inr (.inl _)], h => False.elim h
  | .inl _ :: _ :: _, h => False.elim h
  | .inr (.inl _) :: _ :: _, h => False.elim h
  | .inr (.inr _) :: _ :: _, h => False.elim h
theorem z_invGa {P : zR → Prop} : ∀ {o : Option (Option zV)}, (match o with
    | some (some (.inr (.inr x))) => P x
    | _ => False) → ∃ x, o = some (some (.inr (.inr x))) ∧ P x
  | some (some (.inr (.inr x))), h => ⟨x, rfl, h⟩
  | none, h => False.elim h
  | some none, h => False.elim h
  | some (some (.inl _)), h => False.elim h
  | some (some (.inr (.inl _))), h => False.elim h
theorem z_invB {P : Prop} : ∀ {b : Bool}, (match b with
    | true => P
    | false => False) → b = true ∧ P
  | true, h => ⟨rfl, h⟩
  | false, h => False.elim h
theorem z_vc {cx : zX} {st : List zV} {v : zV} (hv : z_vv cx v) (h : ∀ w ∈ st, z_vv cx w) : ∀ w ∈ v :: st, z_vv cx w := by
  intro w hw
  rcases List.mem_cons.mp hw with e | e
  · rw [e]; exact hv
  · exact h w e
theorem z_vt {cx : zX} {st : List zV} {v : zV} (h : ∀ w ∈ v :: st, z_vv cx w) : ∀ w ∈ st, z_vv cx w := fun w hw => h w (List.mem_cons_of_mem _ hw)
theorem z_vh {cx : zX} {st : List zV} {v : zV} (h : ∀ w ∈ v :: st, z_vv cx w) : z_vv cx v := h v List.mem_cons_self
