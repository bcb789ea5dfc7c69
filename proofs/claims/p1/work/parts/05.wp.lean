/-! ===== the meaning of code, segment by segment ===== -/
def z_lit (v : Int) : Int32 := match v with
  | .ofNat n => OfNat.ofNat n
  | .negSucc n => -(OfNat.ofNat (n + 1))
def z_litL (v : Int) : Int64 := match v with
  | .ofNat n => OfNat.ofNat n
  | .negSucc n => -(OfNat.ofNat (n + 1))
theorem z_lit_eq (v : Int) : z_lit v = Int32.ofInt v := by
  cases v with
  | ofNat n => exact (Int32.ofInt_eq_ofNat (n := n)).symm
  | negSucc n => rw [Int.negSucc_eq, Int32.ofInt_neg]; exact congrArg Neg.neg (Int32.ofInt_eq_ofNat (n := n + 1)).symm
theorem z_litL_eq (v : Int) : z_litL v = Int64.ofInt v := by
  cases v with
  | ofNat n => exact (Int64.ofInt_eq_ofNat (n := n)).symm
  | negSucc n => rw [Int.negSucc_eq, Int64.ofInt_neg]; exact congrArg Neg.neg (Int64.ofInt_eq_ofNat (n := n + 1)).symm
def z_clr (o : Option zV) : Option zV := match o with
  | some (.inr (.inl _)) => none
  | o => o
def z_s1 : zL → Nat → zV → zL
  | [], _, _ => []
  | _ :: t, 0, v => some v :: t
  | o :: t, 1, v => z_clr o :: z_s1 t 0 v
  | o :: t, n + 2, v => o :: z_s1 t (n + 1) v
def z_h2 : zL → zL
  | [] => []
  | _ :: t => none :: t
def z_s2 : zL → Nat → zV → zL
  | [], _, _ => []
  | _ :: t, 0, v => some v :: z_h2 t
  | o :: t, 1, v => z_clr o :: z_s2 t 0 v
  | o :: t, n + 2, v => o :: z_s2 t (n + 1) v
def z_mask : List Bool → zL → zL
  | [], _ => []
  | _ :: _, [] => []
  | true :: m, o :: t => o :: z_mask m t
  | false :: m, _ :: t => none :: z_mask m t
def z_pop : Nat → List zV → List zV → Option (List zV × List zV)
  | 0, acc, st => some (acc, st)
  | _ + 1, _, [] => none
  | n + 1, acc, v :: st => z_pop n (v :: acc) st
def z_cat : List zV → Nat
  | [] => 0
  | .inr (.inl _) :: t => 2 + z_cat t
  | _ :: t => 1 + z_cat t
def z_uI (h : zH) (q : zR) (k : Nat) (x : Int32) : zH := (fun q' k' => if q' = q ∧ k' = k then x else h.1 q' k', h.2.1, h.2.2)
def z_uL (h : zH) (q : zR) (k : Nat) (x : Int64) : zH := (h.1, fun q' k' => if q' = q ∧ k' = k then x else h.2.1 q' k', h.2.2)
def z_uR (h : zH) (q : zR) (k : Nat) (x : zR) : zH := (h.1, h.2.1, fun q' k' => if q' = q ∧ k' = k then some x else h.2.2 q' k')
/-- the kind of cell that a place which changes leads to -/
def z_mk (kd k : Nat) : Nat := match kd with
  | 19 => (match k with
    | 7 => 17
    | 8 => 18
    | _ => 14)
  | _ => 14
def z_get (h : zH) (q : zR) (k tc : Nat) (K : zV → Prop) : Prop := match tc with
  | 0 => K (.inl (h.1 q k))
  | 5 => K (.inl (h.1 q k))
  | 1 => K (.inr (.inl (h.2.1 q k)))
  | 2 => K (.inr (.inr (z_fr q k)))
  | 3 => ∃ i j : Nat, h.2.2 q k = some (z_mk q.1 k, i, j) ∧ K (.inr (.inr (z_mk q.1 k, i, j)))
  | 4 => K (.inr (.inr (1, q.2.1, 0)))
  | 6 => K (.inl 0)
  | _ => False
def z_put (h : zH) (q : zR) (k tc : Nat) (v : zV) (K : zH → Prop) : Prop := match tc, v with
  | 0, .inl x => ∀ h1, h1 = z_uI h q k x → K h1
  | 5, .inl x => (x = 0 ∨ x = 1) ∧ ∀ h1, h1 = z_uI h q k x → K h1
  | 1, .inr (.inl x) => ∀ h1, h1 = z_uL h q k x → K h1
  | 3, .inr (.inr r) => (match Nat.beq r.1 (z_mk q.1 k) with
    | true => ∀ h1, h1 = z_uR h q k r → K h1
    | false => False)
  | _, _ => False
def z_if (c : Jvm.ClassFile.Cond) (x y : Int32) (a b : Prop) : Prop := match c with
  | .eq => (x = y → a) ∧ (¬ x = y → b)
  | .ne => (x = y → b) ∧ (¬ x = y → a)
  | .lt => (x < y → a) ∧ (¬ x < y → b)
  | .ge => (x < y → b) ∧ (¬ x < y → a)
  | .gt => (y < x → a) ∧ (¬ y < x → b)
  | .le => (y < x → b) ∧ (¬ y < x → a)
def z_tsw (J : Int → Prop) (x : Int32) : Int → List Int → Prop
  | _, [] => True
  | lo, t :: ts => (x = z_lit lo → J t) ∧ z_tsw J x (lo + 1) ts
def z_lsw (J : Int → Prop) (x : Int32) : List (Int × Int) → Prop
  | [] => True
  | (k, t) :: ts => (x = z_lit k → J t) ∧ z_lsw J x ts
def z_lno (x : Int32) : List (Int × Int) → Prop
  | [] => True
  | (k, _) :: ts => ¬ x = z_lit k ∧ z_lno x ts
/-- one instruction; nx: falls through; nc: behind a call; to: jumps -/
def z_ins (i : Instr) (nx nc : zL → List zV → zH → Prop) (to : Nat → zL → List zV → zH → Prop) (Q : Option zV → zH → Prop) (L : zL) (st : List zV) (h : zH) : Prop :=
  match i with
  | .iconst v => nx L (.inl (z_lit v) :: st) h
  | .jsr_w v => nx L (.inr (.inl (z_litL v)) :: st) h
  | .ldc n => nx L (.inr (.inr (0, n, 0)) :: st) h
  | .iload n => (match L[n]? with
    | some (some (.inl x)) => nx L (.inl x :: st) h
    | _ => False)
  | .lload n => (match L[n]? with
    | some (some (.inr (.inl x))) => nx L (.inr (.inl x) :: st) h
    | _ => False)
  | .aload n => (match L[n]? with
    | some (some (.inr (.inr x))) => nx L (.inr (.inr x) :: st) h
    | _ => False)
  | .istore n => (match st with
    | .inl x :: r => nx (z_s1 L n (.inl x)) r h
    | _ => False)
  | .lstore n => (match st with
    | .inr (.inl x) :: r => nx (z_s2 L n (.inr (.inl x))) r h
    | _ => False)
  | .astore n => (match st with
    | .inr (.inr x) :: r => nx (z_s1 L n (.inr (.inr x))) r h
    | _ => False)
  | .iinc n v => (match L[n]? with
    | some (some (.inl x)) => nx (z_s1 L n (.inl (x + z_lit v))) st h
    | _ => False)
  | .iadd => (match st with
    | .inl y :: .inl x :: r => nx L (.inl (x + y) :: r) h
    | _ => False)
  | .isub => (match st with
    | .inl y :: .inl x :: r => nx L (.inl (x - y) :: r) h
    | _ => False)
  | .imul => (match st with
    | .inl y :: .inl x :: r => nx L (.inl (x * y) :: r) h
    | _ => False)
  | .iand => (match st with
    | .inl y :: .inl x :: r => nx L (.inl (x &&& y) :: r) h
    | _ => False)
  | .ior => (match st with
    | .inl y :: .inl x :: r => nx L (.inl (x ||| y) :: r) h
    | _ => False)
  | .ixor => (match st with
    | .inl y :: .inl x :: r => nx L (.inl (x ^^^ y) :: r) h
    | _ => False)
  | .idiv => (match st with
    | .inl y :: .inl x :: r => (¬ y = 0) ∧ nx L (.inl (x / y) :: r) h
    | _ => False)
  | .irem => (match st with
    | .inl y :: .inl x :: r => (¬ y = 0) ∧ nx L (.inl (x - x / y * y) :: r) h
    | _ => False)
  | .ishl => (match st with
    | .inl y :: .inl x :: r => nx L (.inl (x <<< (y &&& 31)) :: r) h
    | _ => False)
  | .ishr => (match st with
    | .inl y :: .inl x :: r => nx L (.inl (x >>> (y &&& 31)) :: r) h
    | _ => False)
  | .ladd => (match st with
    | .inr (.inl y) :: .inr (.inl x) :: r => nx L (.inr (.inl (x + y)) :: r) h
    | _ => False)
  | .lsub => (match st with
    | .inr (.inl y) :: .inr (.inl x) :: r => nx L (.inr (.inl (x - y)) :: r) h
    | _ => False)
  | .lmul => (match st with
    | .inr (.inl y) :: .inr (.inl x) :: r => nx L (.inr (.inl (x * y)) :: r) h
    | _ => False)
  | .land => (match st with
    | .inr (.inl y) :: .inr (.inl x) :: r => nx L (.inr (.inl (x &&& y)) :: r) h
    | _ => False)
  | .lor => (match st with
    | .inr (.inl y) :: .inr (.inl x) :: r => nx L (.inr (.inl (x ||| y)) :: r) h
    | _ => False)
  | .ldiv => (match st with
    | .inr (.inl y) :: .inr (.inl x) :: r => (¬ y = 0) ∧ nx L (.inr (.inl (x / y)) :: r) h
    | _ => False)
  | .lrem => (match st with
    | .inr (.inl y) :: .inr (.inl x) :: r => (¬ y = 0) ∧ nx L (.inr (.inl (x - x / y * y)) :: r) h
    | _ => False)
  | .lshl => (match st with
    | .inl y :: .inr (.inl x) :: r => nx L (.inr (.inl (x <<< (y.toInt64 &&& 63))) :: r) h
    | _ => False)
  | .lshr => (match st with
    | .inl y :: .inr (.inl x) :: r => nx L (.inr (.inl (x >>> (y.toInt64 &&& 63))) :: r) h
    | _ => False)
  | .lushr => (match st with
    | .inl y :: .inr (.inl x) :: r => nx L (.inr (.inl (x.toUInt64 >>> (y.toInt64.toUInt64 &&& Int64.toUInt64 63)).toInt64) :: r) h
    | _ => False)
  | .lcmp => (match st with
    | .inr (.inl y) :: .inr (.inl x) :: r => nx L (.inl (lg_cmp x y) :: r) h
    | _ => False)
  | .drem => (match st with
    | .inl y :: .inl x :: r => (match Nat.ble (z_cat r) 8 with
      | true => nx L (.inl (if x < y then y else x) :: r) h
      | false => False)
    | _ => False)
  | .frem => (match st with
    | .inl y :: .inl x :: r => (match Nat.ble (z_cat r) 8 with
      | true => nx L (.inl (if y < x then y else x) :: r) h
      | false => False)
    | _ => False)
  | .i2l => (match st with
    | .inl x :: r => nx L (.inr (.inl x.toInt64) :: r) h
    | _ => False)
  | .l2i => (match st with
    | .inr (.inl x) :: r => nx L (.inl x.toInt32 :: r) h
    | _ => False)
  | .i2b => (match st with
    | .inl x :: r => nx L (.inl x.toInt8.toInt32 :: r) h
    | _ => False)
  | .i2c => (match st with
    | .inl x :: r => nx L (.inl (x.toUInt32 % 65536).toInt32 :: r) h
    | _ => False)
  | .dup => (match st with
    | .inl x :: r => nx L (.inl x :: .inl x :: r) h
    | .inr (.inr x) :: r => nx L (.inr (.inr x) :: .inr (.inr x) :: r) h
    | _ => False)
  | .pop => (match st with
    | .inl _ :: r => nx L r h
    | .inr (.inr _) :: r => nx L r h
    | _ => False)
  | .dup2 => (match st with
    | .inl x :: .inr (.inr y) :: r => nx L (.inl x :: .inr (.inr y) :: .inl x :: .inr (.inr y) :: r) h
    | _ => False)
  | .ifCond c t => (match st with
    | .inl x :: r => z_if c x 0 (to t.toNat L r h) (nx L r h)
    | _ => False)
  | .if_icmp c t => (match st with
    | .inl y :: .inl x :: r => z_if c x y (to t.toNat L r h) (nx L r h)
    | _ => False)
  | .goto t => to t.toNat L st h
  | .tableswitch d lo hi ts => (match st with
    | .inl x :: r => z_tsw (fun t => to t.toNat L r h) x lo ts.toList ∧ ((x.toInt < lo ∨ hi < x.toInt) → to d.toNat L r h)
    | _ => False)
  | .lookupswitch d ps => (match st with
    | .inl x :: r => z_lsw (fun t => to t.toNat L r h) x ps.toList ∧ (z_lno x ps.toList → to d.toNat L r h)
    | _ => False)
  | .getfield n => (match st with
    | .inr (.inr q) :: r => (match Nat.beq q.1 (n / 1024) with
      | true => z_get h q (n / 8 % 128) (n % 8) (fun v => nx L (v :: r) h)
      | false => False)
    | _ => False)
  | .putfield n => (match st with
    | v :: .inr (.inr q) :: r => (match Nat.beq q.1 (n / 1024) with
      | true => z_put h q (n / 8 % 128) (n % 8) v (fun h1 => nx L r h1)
      | false => False)
    | _ => False)
  | .getstatic n => (match n with
    | 0 => nx L (.inl 1 :: st) h
    | 1 => nx L (.inr (.inr (3, 0, 0)) :: st) h
    | 2 => nx L (.inr (.inr (2, 0, 0)) :: st) h
    | 3 => nx L (.inr (.inr (2, 1, 0)) :: st) h
    | _ => False)
  | .iaload => (match st with
    | .inl x :: .inr (.inr q) :: r => (match z_at q.1 with
      | 0 => vp_in x (z_ln q) ∧ nx L (.inl (h.1 q x.toNatClampNeg) :: r) h
      | 9 => vp_in x (z_ln q) ∧ nx L (.inl ((z_ci.getD q.2.1 []).getD x.toNatClampNeg 0) :: r) h
      | _ => False)
    | _ => False)
  | .baload => (match st with
    | .inl x :: .inr (.inr q) :: r => (match z_at q.1 with
      | 2 => vp_in x (z_ln q) ∧ nx L (.inl (h.1 q x.toNatClampNeg) :: r) h
      | 3 => vp_in x (z_ln q) ∧ nx L (.inl (h.1 q x.toNatClampNeg) :: r) h
      | 8 => vp_in x (z_ln q) ∧ nx L (.inl ((z_sb.getD q.2.1 []).getD x.toNatClampNeg 0) :: r) h
      | _ => False)
    | _ => False)
  | .laload => (match st with
    | .inl x :: .inr (.inr q) :: r => (match z_at q.1 with
      | 1 => vp_in x (z_ln q) ∧ nx L (.inr (.inl (h.2.1 q x.toNatClampNeg)) :: r) h
      | _ => False)
    | _ => False)
  | .aaload => (match st with
    | .inl x :: .inr (.inr q) :: r => (match z_at q.1 with
      | 4 => vp_in x (z_ln q) ∧ nx L (.inr (.inr (z_el q x.toNatClampNeg)) :: r) h
      | 5 => vp_in x (z_ln q) ∧ ∃ i j : Nat, h.2.2 q x.toNatClampNeg = some (14, i, j) ∧ nx L (.inr (.inr (14, i, j)) :: r) h
      | _ => False)
    | _ => False)
  | .iastore => (match st with
    | .inl v :: .inl x :: .inr (.inr q) :: r => (match z_at q.1 with
      | 0 => vp_in x (z_ln q) ∧ ∀ h1, h1 = z_uI h q x.toNatClampNeg v → nx L r h1
      | _ => False)
    | _ => False)
  | .bastore => (match st with
    | .inl v :: .inl x :: .inr (.inr q) :: r => (match z_at q.1 with
      | 2 => vp_in x (z_ln q) ∧ ∀ h1, h1 = z_uI h q x.toNatClampNeg (vp_nar .byte v) → nx L r h1
      | 3 => vp_in x (z_ln q) ∧ ∀ h1, h1 = z_uI h q x.toNatClampNeg (vp_nar .boolean v) → nx L r h1
      | _ => False)
    | _ => False)
  | .lastore => (match st with
    | .inr (.inl v) :: .inl x :: .inr (.inr q) :: r => (match z_at q.1 with
      | 1 => vp_in x (z_ln q) ∧ ∀ h1, h1 = z_uL h q x.toNatClampNeg v → nx L r h1
      | _ => False)
    | _ => False)
  | .aastore => (match st with
    | .inr (.inr v) :: .inl x :: .inr (.inr q) :: r => (match z_at q.1 with
      | 5 => (match Nat.beq v.1 14 with
        | true => vp_in x (z_ln q) ∧ ∀ h1, h1 = z_uR h q x.toNatClampNeg v → nx L r h1
        | false => False)
      | _ => False)
    | _ => False)
  | .arraylength => (match st with
    | .inr (.inr q) :: r => (match Nat.ble (z_at q.1) 9 with
      | true => nx L (.inl (Int32.ofNat (z_ln q)) :: r) h
      | false => False)
    | _ => False)
  | .ireturn => (match st with
    | [.inl x] => Q (some (.inl x)) h
    | _ => False)
  | .jsr n => (match st with
    | [.inl x] => (match n with
      | 0 => (x = 0 ∨ x = 1) ∧ Q (some (.inl x)) h
      | 1 => narrow .byte (.int x) = .int x ∧ Q (some (.inl x)) h
      | 2 => narrow .char (.int x) = .int x ∧ Q (some (.inl x)) h
      | _ => False)
    | _ => False)
  | .lreturn => (match st with
    | [.inr (.inl x)] => Q (some (.inr (.inl x))) h
    | _ => False)
  | .areturn => (match st with
    | [.inr (.inr q)] => (match Nat.beq q.1 3 with
      | false => Q (some (.inr (.inr q))) h
      | true => False)
    | _ => False)
  | .return_ => (match st with
    | [] => Q none h
    | _ => False)
  | .invokeinterface y en => (match z_pop (en / 4 % 16) [] st with
    | some (as, r) => (match Nat.ble (z_cat r) 8 && (match en / 64, as with
        | 0, _ => true
        | k + 1, .inr (.inr q) :: _ => Nat.beq q.1 k
        | _, _ => false) with
      | true => (match en % 4 with
        | 0 => zOkV y as h (fun h1 => nc L r h1)
        | 1 => zOkI y as h (fun x h1 => nc L (.inl x :: r) h1)
        | 2 => zOkL y as h (fun x h1 => nc L (.inr (.inl x) :: r) h1)
        | _ => zOkR y as h (fun x h1 => nc L (.inr (.inr x) :: r) h1))
      | false => False)
    | none => False)
  | _ => False
def z_find : List (Nat × Instr) → Nat → List (Nat × Instr)
  | [], _ => []
  | (p, i) :: t, pc => match Nat.beq p pc with
    | true => (p, i) :: t
    | false => z_find t pc
def z_cutAt : List (Nat × List Bool) → Nat → Option (List Bool)
  | [], _ => none
  | (p, m) :: t, pc => match Nat.beq p pc with
    | true => some m
    | false => z_cutAt t pc
/-- from a place on: each way of the code up to its end, to a call's end or to a cut -/
def z_wp (y : Nat) (C : List (Nat × Instr)) (ct : List (Nat × List Bool)) (Q : Option zV → zH → Prop) (n : Nat) : List (Nat × Instr) → zL → List zV → zH → Prop :=
  Nat.rec (fun _ _ _ _ => False) (fun _ ih cs L st h => match cs with
    | [] => False
    | (_, i) :: rest => z_ins i
      (fun L st h => match rest with
        | [] => False
        | (p, _) :: _ => (match z_cutAt ct p with
          | some m => zAt y p (z_mask m L) st h Q
          | none => ih rest L st h))
      (fun L st h => match rest with
        | [] => False
        | (p, _) :: _ => (match z_cutAt ct p with
          | some m => zAt y p (z_mask m L) st h Q
          | none => zAt y p L st h Q))
      (fun p L st h => match z_cutAt ct p with
        | some m => zAt y p (z_mask m L) st h Q
        | none => ih (z_find C p) L st h) Q L st h) n
/-- the shape of a call: receiver's kind and one, how many values, what comes back -/
def z_kc (o : Nat) : Nat := if o < 13 then o + 10 else 0
def z_en (y : Nat) : Nat := ((if (z_m y).2.2.2.2.2.1.1 then 0 else z_kc (z_m y).2.2.2.2.1.1 + 1) * 16 + ((z_m y).2.2.2.2.2.1.2 + (if (z_m y).2.2.2.2.2.1.1 then 0 else 1))) * 4 + (match (z_m y).2.2.2.1 with
  | none => 0
  | some .long => 2
  | some (.object _) => 3
  | some (.array _) => 3
  | some _ => 1)
/-- which of the machine's instructions an instruction of ours is -/
def z_lk (o : Nat) (ret : Option FieldType) (pc : Nat) (r : Instr) : Instr := match r with
  | .iconst v => .iconst v
  | .bipush v => if (Int8.ofInt v).toInt32 = Int32.ofInt v then .iconst v else .nop
  | .sipush v => if (Int16.ofInt v).toInt32 = Int32.ofInt v then .iconst v else .nop
  | .lconst n => .jsr_w (n : Nat)
  | .ldc k => (match (z_kls.getD o []).find? (fun q => q.1 == k) with
    | some q => .iconst q.2.1
    | none => match (z_sls.getD o []).find? (fun q => q.1 == k) with
      | some q => .ldc q.2.1
      | none => .nop)
  | .ldc_w k => (match (z_kls.getD o []).find? (fun q => q.1 == k) with
    | some q => .iconst q.2.1
    | none => .nop)
  | .ldc2_w k => (match (z_lls.getD o []).find? (fun q => q.1 == k) with
    | some q => .jsr_w q.2.1
    | none => .nop)
  | .iload n => .iload n
  | .iload_n n => .iload n
  | .lload n => .lload n
  | .lload_n n => .lload n
  | .aload n => .aload n
  | .aload_n n => .aload n
  | .istore n => .istore n
  | .istore_n n => .istore n
  | .lstore n => .lstore n
  | .lstore_n n => .lstore n
  | .astore n => .astore n
  | .astore_n n => .astore n
  | .iinc n v => .iinc n v
  | .iadd => .iadd
  | .isub => .isub
  | .imul => .imul
  | .iand => .iand
  | .ior => .ior
  | .ixor => .ixor
  | .idiv => .idiv
  | .irem => .irem
  | .ishl => .ishl
  | .ishr => .ishr
  | .ladd => .ladd
  | .lsub => .lsub
  | .lmul => .lmul
  | .land => .land
  | .lor => .lor
  | .ldiv => .ldiv
  | .lrem => .lrem
  | .lshl => .lshl
  | .lshr => .lshr
  | .lushr => .lushr
  | .lcmp => .lcmp
  | .i2l => .i2l
  | .l2i => .l2i
  | .i2b => .i2b
  | .i2c => .i2c
  | .dup => .dup
  | .dup2 => .dup2
  | .pop => .pop
  | .ifCond c off => .ifCond c (pc + off)
  | .if_icmp c off => .if_icmp c (pc + off)
  | .goto off => .goto (pc + off)
  | .tableswitch d lo hi ts => .tableswitch (pc + d) lo hi (ts.map (fun t => pc + t))
  | .lookupswitch d ps => .lookupswitch (pc + d) (ps.map (fun t => (t.1, pc + t.2)))
  | .getfield k => (match (z_fls.getD o []).find? (fun q => q.1 == k) with
    | some q => .getfield q.2.1
    | none => .nop)
  | .putfield k => (match (z_fls.getD o []).find? (fun q => q.1 == k) with
    | some q => .putfield q.2.1
    | none => .nop)
  | .getstatic k => (match (z_gls.getD o []).find? (fun q => q.1 == k) with
    | some q => .getstatic q.2.1
    | none => .nop)
  | .iaload => .iaload
  | .laload => .laload
  | .baload => .baload
  | .aaload => .aaload
  | .iastore => .iastore
  | .lastore => .lastore
  | .bastore => .bastore
  | .aastore => .aastore
  | .arraylength => .arraylength
  | .ireturn => (match ret with
    | some .int => .ireturn
    | some .boolean => .jsr 0
    | some .byte => .jsr 1
    | some .char => .jsr 2
    | _ => .nop)
  | .lreturn => .lreturn
  | .areturn => .areturn
  | .return_ => .return_
  | .invokevirtual k => (match (z_mls.getD o []).find? (fun q => q.1 == k) with
    | some q => if q.2.2.1 = 0 then .invokeinterface q.2.1 (z_en q.2.1) else .nop
    | none => .nop)
  | .invokestatic k => (match (z_mls.getD o []).find? (fun q => q.1 == k) with
    | some q => (match q.2.2.1 with
      | 1 => .invokeinterface q.2.1 (z_en q.2.1)
      | 2 => .invokeinterface q.2.1 (z_en q.2.1)
      | 3 => .drem
      | 4 => .frem
      | _ => .nop)
    | none => .nop)
  | _ => .nop
def z_lenok (r : Instr) (len : Nat) : Bool := match r with
  | .tableswitch _ _ _ _ => true
  | .lookupswitch _ _ => true
  | .bipush _ => Nat.beq len 2
  | .ldc _ => Nat.beq len 2
  | .iload _ => Nat.beq len 2
  | .lload _ => Nat.beq len 2
  | .aload _ => Nat.beq len 2
  | .istore _ => Nat.beq len 2
  | .lstore _ => Nat.beq len 2
  | .astore _ => Nat.beq len 2
  | .sipush _ => Nat.beq len 3
  | .ldc_w _ => Nat.beq len 3
  | .ldc2_w _ => Nat.beq len 3
  | .iinc _ _ => Nat.beq len 3
  | .ifCond _ _ => Nat.beq len 3
  | .if_icmp _ _ => Nat.beq len 3
  | .goto _ => Nat.beq len 3
  | .getfield _ => Nat.beq len 3
  | .putfield _ => Nat.beq len 3
  | .getstatic _ => Nat.beq len 3
  | .invokevirtual _ => Nat.beq len 3
  | .invokestatic _ => Nat.beq len 3
  | _ => Nat.beq len 1
/-- the room that the calls of a method's code need is in its own -/
def z_okr (y : Nat) : List (Nat × Instr) → Bool
  | [] => true
  | (_, i) :: t => (match i with
    | .invokeinterface k _ => Nat.blt k 247 && Nat.ble ((z_m k).2.2.2.2.1.2.1 + 1) (z_m y).2.2.2.2.1.2.1 && Nat.ble (8 + ((z_m k).2.2.1 + 11) + (z_m k).2.2.2.2.1.2.2) (z_m y).2.2.2.2.1.2.2
    | .lookupswitch d ps => (ps.toList.zip (ps.toList.drop 1)).all (fun (a, next) => a.1 < next.1) && decide (0 ≤ d) && ps.toList.all (fun q => decide (0 ≤ q.2) && decide (-2147483648 ≤ q.1) && decide (q.1 < 2147483648))
    | .tableswitch d lo hi ts => decide (0 ≤ d) && decide (hi - lo + 1 = ts.size) && ts.toList.all (fun t => decide (0 ≤ t))
    | .lreturn => decide ((z_m y).2.2.2.1 = some .long)
    | .return_ => decide ((z_m y).2.2.2.1 = none)
    | .areturn => (match (z_m y).2.2.2.1 with
      | some (.object _) => true
      | _ => false)
    | .goto t => decide (0 ≤ t)
    | .ifCond _ t => decide (0 ≤ t)
    | .if_icmp _ t => decide (0 ≤ t)
    | .drem => Nat.ble 21 (z_m y).2.2.2.2.1.2.2 && Nat.ble 1 (z_m y).2.2.2.2.1.2.1
    | .frem => Nat.ble 21 (z_m y).2.2.2.2.1.2.2 && Nat.ble 1 (z_m y).2.2.2.2.1.2.1
    | .istore n => Nat.blt n (z_m y).2.2.1
    | .astore n => Nat.blt n (z_m y).2.2.1
    | .iinc n _ => Nat.blt n (z_m y).2.2.1
    | .lstore n => Nat.blt (n + 1) (z_m y).2.2.1
    | _ => true) && z_okr y t
/-- the code of a method, checked against its bytes -/
def z_okc (o : Nat) (ret : Option FieldType) (by_ : ByteArray) : List (Nat × Instr) → Bool
  | [] => true
  | (pc, i) :: t => (match decode by_ pc with
    | .ok (r, len) => z_lenok r len && decide (z_lk o ret pc r = i) && (match t with
      | [] => true
      | (p, _) :: _ => Nat.beq p (pc + len))
    | .error _ => false) && z_okc o ret by_ t
