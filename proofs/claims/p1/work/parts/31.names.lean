/-! ===== names: numbers to the base 37 ===== -/
theorem lg_eq0 {x y : Int64} : lg_cmp x y = 0 ↔ x = y := by
  unfold lg_cmp
  by_cases h1 : x > y
  · rw [if_pos h1]
    exact ⟨fun e => absurd e (by decide), fun e => absurd h1 (by rw [e]; exact Int64.lt_irrefl)⟩
  · rw [if_neg h1]
    by_cases h2 : x = y
    · rw [if_pos h2]; exact ⟨fun _ => h2, fun _ => rfl⟩
    · rw [if_neg h2]; exact ⟨fun e => absurd e (by decide), fun e => absurd e h2⟩
theorem lg_pos {x y : Int64} : 0 < lg_cmp x y ↔ y < x := by
  unfold lg_cmp
  by_cases h1 : x > y
  · rw [if_pos h1]; exact ⟨fun _ => h1, fun _ => by decide⟩
  · rw [if_neg h1]
    by_cases h2 : x = y
    · rw [if_pos h2]; exact ⟨fun e => absurd e (by decide), fun e => absurd e h1⟩
    · rw [if_neg h2]; exact ⟨fun e => absurd e (by decide), fun e => absurd e h1⟩
theorem lg_neg {x y : Int64} : lg_cmp x y < 0 ↔ x < y := by
  unfold lg_cmp
  by_cases h1 : x > y
  · rw [if_pos h1]
    refine ⟨fun e => absurd e (by decide), fun e => ?_⟩
    have a := Int64.lt_iff_toInt_lt.mp h1
    have b := Int64.lt_iff_toInt_lt.mp e
    omega
  · rw [if_neg h1]
    by_cases h2 : x = y
    · rw [if_pos h2]
      refine ⟨fun e => absurd e (by decide), fun e => ?_⟩
      have b := Int64.lt_iff_toInt_lt.mp e
      rw [h2] at b
      omega
    · rw [if_neg h2]
      refine ⟨fun _ => ?_, fun _ => by decide⟩
      refine Int64.lt_iff_toInt_lt.mpr ?_
      have a : ¬ y.toInt < x.toInt := fun z => h1 (Int64.lt_iff_toInt_lt.mpr z)
      have b : ¬ x.toInt = y.toInt := fun z => h2 (Int64.toInt_inj.mp z)
      omega
theorem i64_pos {x : Int64} : 0 < x ↔ 0 < x.toInt := by
  rw [Int64.lt_iff_toInt_lt]
  exact Iff.rfl
theorem i64_d37 {x : Int64} (hx : 0 < x) : (x / 37).toInt = x.toInt / 37 := by
  have h := i64_pos.mp hx
  rw [Int64.toInt_div_of_ne_right x 37 (by decide), show (37 : Int64).toInt = 37 from rfl, Int.tdiv_eq_ediv_of_nonneg (by omega)]
def nlF : Nat → Int64 → Nat
  | 0, _ => 0
  | n + 1, x => if 0 < x then nlF n (x / 37) + 1 else 0
/-- how many letters -/
def nl (x : Int64) : Nat := nlF 13 x
theorem nlF_le : ∀ (n : Nat) (x : Int64), nlF n x ≤ n
  | 0, _ => Nat.le_refl _
  | n + 1, x => by
    unfold nlF
    split
    · exact Nat.succ_le_succ (nlF_le n _)
    · omega
theorem nl_le (x : Int64) : nl x ≤ 13 := nlF_le 13 x
theorem nl_lt (x : Int64) : x.toInt < 37 ^ 13 := by
  have h := Int64.toInt_lt x
  omega
def dvF : Nat → Int64 → Int64
  | 0, x => x
  | n + 1, x => dvF n (x / 37)
/-- the last letter -/
def ltr (x : Int64) : Int32 := if 26 < Int64.toInt32 (x - x / 37 * 37) then 21 + Int64.toInt32 (x - x / 37 * 37) else 96 + Int64.toInt32 (x - x / 37 * 37)
/-- letter i of a name, or NONE -/
def nbt (x : Int64) (i : Int32) : Int32 := if ¬ i < 0 ∧ i < nI (nl x) then ltr (dvF (nl x - 1 - i.toNatClampNeg) x) else -5
section NAMES
variable {h : zH} {K : Int32 → zH → Prop}
theorem l_M_lengthOf {x0 : Int64} : ∀ (n c : Nat) (x : Int64), x.toInt < 37 ^ n → K (nI (c + nlF n x)) h → zAt m_M_lengthOf 4 [some (.inr (.inl x0)), none, some (.inl (nI c)), some (.inr (.inl x)), none] [] h (z_qI K)
  | 0, c, x, hx, k => g_M_lengthOf_4 ⟨fun a => absurd (i64_pos.mp (lg_pos.mp a)) (by omega), fun _ => k⟩
  | n + 1, c, x, hx, k => by
    refine g_M_lengthOf_4 ⟨fun a => ⟨by decide, ?_⟩, fun a => ?_⟩
    · have a' := lg_pos.mp a
      rw [nI_1]
      refine l_M_lengthOf n (c + 1) (x / 37) ?_ ?_
      · rw [i64_d37 a']
        rw [Int.pow_succ] at hx
        omega
      · unfold nlF at k
        rw [if_pos a'] at k
        rwa [show c + (nlF n (x / 37) + 1) = c + 1 + nlF n (x / 37) by omega] at k
    · unfold nlF at k
      rwa [if_neg (fun z => a (lg_pos.mpr z))] at k
theorem s_M_lengthOf {x : Int64} (k : K (nI (nl x)) h) : zOkI m_M_lengthOf [.inr (.inl x)] h K := o_M_lengthOf (l_M_lengthOf 13 0 x (nl_lt x) (by rw [Nat.zero_add]; exact k))
theorem i32_27 {d : Int32} : d < 27 ↔ ¬ 26 < d := by
  rw [Int32.lt_iff_toInt_lt, Int32.lt_iff_toInt_lt, show (27 : Int32).toInt = 27 from rfl, show (26 : Int32).toInt = 26 from rfl]
  omega
theorem i32_a1 {d : Int32} : (d - 1) + 97 = 96 + d := by grind
theorem i32_a2 {d : Int32} : (d - 27) + 48 = 21 + d := by grind
theorem l_J_nameByteFromEnd {x0 : Int64} {n : Nat} (hn : n < 2 ^ 31) : ∀ (m c : Nat) (x : Int64), c + m = n → K (ltr (dvF m x)) h → zAt m_J_nameByteFromEnd 5 [some (.inr (.inl x0)), none, some (.inl (nI n)), some (.inr (.inl x)), none, some (.inl (nI c))] [] h (z_qI K)
  | 0, c, x, hc, k => by
    refine g_J_nameByteFromEnd_5 ⟨fun a => absurd a (nI_nlt (by omega) (by omega)), fun _ => ⟨by decide, fun a => ?_, fun a => ?_⟩⟩
    · unfold dvF ltr at k
      rw [if_neg (i32_27.mp a)] at k
      rwa [i32_a1]
    · unfold dvF ltr at k
      rw [if_pos (Classical.not_not.mp (fun z => a (i32_27.mpr z)))] at k
      rwa [i32_a2]
  | m + 1, c, x, hc, k => by
    refine g_J_nameByteFromEnd_5 ⟨fun _ => ⟨by decide, ?_⟩, fun a => absurd (nI_lt (by omega) hn) a⟩
    rw [nI_1]
    exact l_J_nameByteFromEnd hn m (c + 1) (x / 37) (by omega) k
theorem s_J_nameByteFromEnd {x : Int64} {n : Nat} (hn : n < 2 ^ 31) (k : K (ltr (dvF n x)) h) : zOkI m_J_nameByteFromEnd [.inr (.inl x), .inl (nI n)] h K := o_J_nameByteFromEnd (l_J_nameByteFromEnd hn n 0 x (by omega) k)
theorem l_M_letterAt {x0 : Int64} {i n3 : Nat} (hi : i < 2 ^ 30) : ∀ (m : Nat) (x : Int64), m < 2 ^ 30 → K (ltr (dvF m x)) h → zAt m_M_letterAt 27 [some (.inr (.inl x0)), none, some (.inl (nI i)), some (.inl (nI n3)), some (.inr (.inl x)), none, some (.inl (nI (i + m)))] [] h (z_qI K)
  | 0, x, hm, k => by
    refine g_M_letterAt_27 ⟨fun a => absurd a (nI_nlt (by omega) (by omega)), fun _ => ⟨by decide, fun a => ?_, fun a => ?_⟩⟩
    · unfold dvF ltr at k
      rwa [if_pos a] at k
    · unfold dvF ltr at k
      rwa [if_neg a] at k
  | m + 1, x, hm, k => by
    refine g_M_letterAt_27 ⟨fun _ => ⟨by decide, ?_⟩, fun a => absurd (nI_lt (by omega) (by omega)) a⟩
    rw [show nI (i + (m + 1)) + (-1) = nI (i + m) from pk_m1 (i + m)]
    exact l_M_letterAt hi m (x / 37) (by omega) k
theorem nI_in1 {n : Nat} {i : Int32} (hn : n < 2 ^ 30) : (¬ i < 0 ∧ ¬ nI n - 1 < i) ↔ (¬ i < 0 ∧ i < nI n) := by
  constructor
  · rintro ⟨a, b⟩
    refine ⟨a, ?_⟩
    have h1 := pk_sub_toInt (a := n) (b := 1) (by omega) (by omega)
    rw [Int32.lt_iff_toInt_lt, show nI n - 1 = nI n - nI 1 from rfl, h1] at b
    rw [Int32.lt_iff_toInt_lt, nI_toInt (by omega)]
    omega
  · rintro ⟨a, b⟩
    refine ⟨a, ?_⟩
    have h1 := pk_sub_toInt (a := n) (b := 1) (by omega) (by omega)
    rw [Int32.lt_iff_toInt_lt, show nI n - 1 = nI n - nI 1 from rfl, h1]
    rw [Int32.lt_iff_toInt_lt, nI_toInt (by omega)] at b
    omega
theorem s_M_letterAt {x : Int64} {i : Int32} (k : K (nbt x i) h) : zOkI m_M_letterAt [.inr (.inl x), .inl i] h K := by
  unfold nbt at k
  have hl := nl_le x
  refine o_M_letterAt (s_M_lengthOf (g_M_letterAt_4 (s_M_in (g_M_letterAt_13 ⟨fun a => ?_, fun a => ?_⟩))))
  · have a' := zb0.mp a
    rwa [if_neg (fun z => a' ((nI_in1 (by omega)).mpr z))] at k
  · have a' := (nI_in1 (by omega)).mp (zb1.mp a)
    rw [if_pos a'] at k
    obtain ⟨j, hj, rfl⟩ := nI_of a'.1
    have hjl : j < nl x := (nI_ltI hj (by omega)).mp a'.2
    rw [nI_clamp hj] at k
    rw [show nI (nl x) - 1 = nI (j + (nl x - 1 - j)) by rw [show nI (nl x) - 1 = nI (nl x - 1) from pk_sub (b := 1) (by omega)]; congr 1; omega]
    exact l_M_letterAt (by omega) _ x (by omega) k
end NAMES
