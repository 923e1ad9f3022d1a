/-! numbers: ii n is the int n; bits of an int -/
def ii (n : Nat) : Int32 := Int32.ofNat n
theorem ii_lit (n : Nat) : (OfNat.ofNat n : Int32) = ii (OfNat.ofNat n) := rfl
theorem ii_add (a b : Nat) : ii a + ii b = ii (a + b) := (Int32.ofNat_add a b).symm
theorem ii_mul (a b : Nat) : ii a * ii b = ii (a * b) := (Int32.ofNat_mul a b).symm
theorem ii_sub {a b : Nat} (h : b ≤ a) : ii a - ii b = ii (a - b) := (Int32.ofNat_sub a b h).symm
theorem ii_int {a : Nat} (h : a < 2147483648) : (ii a).toInt = (a : Int) := Int32.toInt_ofNat_of_lt h
theorem ni_int {a : Nat} (h : a < 2147483648) : (-ii a).toInt = -(a : Int) := by
  rw [Int32.toInt_neg, ii_int h, Int.bmod_def]; omega
theorem ii_dec {a : Nat} (h : 1 ≤ a) : ii a + (-ii 1) = ii (a - 1) := by
  rw [← ii_sub h, Int32.sub_eq_add_neg]
theorem ii_lt {a b : Nat} (ha : a < 2147483648) (hb : b < 2147483648) : ii a < ii b ↔ a < b := Int32.ofNat_lt_iff_lt ha hb
theorem ii_le {a b : Nat} (ha : a < 2147483648) (hb : b < 2147483648) : ii a ≤ ii b ↔ a ≤ b := Int32.ofNat_le_iff_le ha hb
theorem ii_eq {a b : Nat} (ha : a < 2147483648) (hb : b < 2147483648) : ii a = ii b ↔ a = b := by
  rw [← Int32.toInt_inj, ii_int ha, ii_int hb]; omega
theorem ii_nat {a : Nat} (ha : a < 2147483648) : (ii a).toNatClampNeg = a := Int32.toNatClampNeg_ofNat_of_lt ha
theorem ii_ib {a n : Nat} (ha : a < 2147483648) (h : a < n) : ql_ib (ii a) n = true := by
  have h0 : ¬ (ii a < ii 0) := by rw [ii_lt ha (by omega)]; omega
  have h1 : ¬ (n ≤ a) := by omega
  simp only [ql_ib, ii_nat ha, Bool.not_eq_true', Bool.or_eq_false_iff, decide_eq_false_iff_not]
  exact ⟨h0, h1⟩
theorem ni_lt_ii {a b : Nat} (ha : a < 2147483648) (hb : b < 2147483648) : -ii a < ii b ↔ 0 < a + b := by
  rw [Int32.lt_iff_toInt_lt, ni_int ha, ii_int hb]; omega
theorem ni_le_ii {a b : Nat} (ha : a < 2147483648) (hb : b < 2147483648) : -ii a ≤ ii b ↔ True := by
  rw [Int32.le_iff_toInt_le, ni_int ha, ii_int hb]; simp only [iff_true]; omega
theorem ii_lt_ni {a b : Nat} (ha : a < 2147483648) (hb : b < 2147483648) : ii b < -ii a ↔ False := by
  rw [Int32.lt_iff_toInt_lt, ni_int ha, ii_int hb]; simp only [iff_false]; omega
theorem ii_le_ni {a b : Nat} (ha : a < 2147483648) (hb : b < 2147483648) : ii b ≤ -ii a ↔ a + b = 0 := by
  rw [Int32.le_iff_toInt_le, ni_int ha, ii_int hb]; omega
theorem ni_eq_ii {a b : Nat} (ha : a < 2147483648) (hb : b < 2147483648) : -ii a = ii b ↔ a + b = 0 := by
  rw [← Int32.toInt_inj, ni_int ha, ii_int hb]; omega
theorem ii_eq_ni {a b : Nat} (ha : a < 2147483648) (hb : b < 2147483648) : ii b = -ii a ↔ a + b = 0 := by
  rw [← Int32.toInt_inj, ni_int ha, ii_int hb]; omega
theorem ni_eq_ni {a b : Nat} (ha : a < 2147483648) (hb : b < 2147483648) : -ii a = -ii b ↔ a = b := by
  rw [← Int32.toInt_inj, ni_int ha, ni_int hb]; omega
/-- an int that isn't below 0 is some ii -/
theorem ii_of {x : Int32} (h : ¬ x < ii 0) : ∃ n : Nat, n < 2147483648 ∧ x = ii n := by
  have h0 : (0 : Int32) ≤ x := by
    rw [Int32.le_iff_toInt_le]; rw [Int32.lt_iff_toInt_lt, ii_int (by omega)] at h
    have : (0 : Int32).toInt = 0 := rfl
    omega
  exact ⟨x.toNatClampNeg, x.toNatClampNeg_lt, (Int32.ofNat_toNatClampNeg x h0).symm⟩
theorem ii_of_le {x : Int32} {b : Nat} (h : ¬ x < ii 0) (hb : b < 2147483648) (h2 : x ≤ ii b) : ∃ n : Nat, n ≤ b ∧ x = ii n := by
  obtain ⟨n, hn, rfl⟩ := ii_of h
  exact ⟨n, (ii_le hn hb).mp h2, rfl⟩
theorem ii_of_lt {x : Int32} {b : Nat} (h : ¬ x < ii 0) (hb : b < 2147483648) (h2 : ¬ ii b ≤ x) : ∃ n : Nat, n < b ∧ x = ii n := by
  obtain ⟨n, hn, rfl⟩ := ii_of h
  exact ⟨n, by rw [ii_le hb hn] at h2; omega, rfl⟩
/-! states -/
theorem up_same (S : ql_St) (k : Nat) (f : Nat → Int32) : ql_up S k f k = f := by
  simp only [ql_up, Nat.beq_refl, cond_true]
theorem up_ne {S : ql_St} {k j : Nat} {f : Nat → Int32} (h : j ≠ k) : ql_up S k f j = S j := by
  have : Nat.beq j k = false := by
    cases e : Nat.beq j k with
    | false => rfl
    | true => exact absurd (Nat.eq_of_beq_eq_true e) h
  simp only [ql_up, this, cond_false]
theorem up_up (S : ql_St) (k : Nat) (f g : Nat → Int32) : ql_up (ql_up S k f) k g = ql_up S k g := by
  funext j; by_cases h : j = k
  · subst h; rw [up_same, up_same]
  · rw [up_ne h, up_ne h, up_ne h]
theorem up_self (S : ql_St) (k : Nat) : ql_up S k (S k) = S := by
  funext j; by_cases h : j = k
  · subst h; rw [up_same]
  · rw [up_ne h]
theorem uq_same (S : ql_Lt) (k : Nat) (f : Nat → Int64) : ql_uq S k f k = f := by
  simp only [ql_uq, Nat.beq_refl, cond_true]
theorem uq_ne {S : ql_Lt} {k j : Nat} {f : Nat → Int64} (h : j ≠ k) : ql_uq S k f j = S j := by
  have : Nat.beq j k = false := by
    cases e : Nat.beq j k with
    | false => rfl
    | true => exact absurd (Nat.eq_of_beq_eq_true e) h
  simp only [ql_uq, this, cond_false]
theorem uq_uq (S : ql_Lt) (k : Nat) (f g : Nat → Int64) : ql_uq (ql_uq S k f) k g = ql_uq S k g := by
  funext j; by_cases h : j = k
  · subst h; rw [uq_same, uq_same]
  · rw [uq_ne h, uq_ne h, uq_ne h]
theorem ud_same (f : Nat → Int32) (k : Nat) (x : Int32) : upd f k x k = x := by simp only [upd, if_pos]
theorem ud_ne {f : Nat → Int32} {k j : Nat} {x : Int32} (h : j ≠ k) : upd f k x j = f j := by simp only [upd, if_neg h]
theorem ul_same (f : Nat → Int64) (k : Nat) (x : Int64) : vp_updL f k x k = x := by simp only [vp_updL, if_pos]
theorem ul_ne {f : Nat → Int64} {k j : Nat} {x : Int64} (h : j ≠ k) : vp_updL f k x j = f j := by simp only [vp_updL, if_neg h]
/-! bits -/
def bt (x : Int32) (i : Nat) : Bool := x.toBitVec.getLsbD i
theorem bt_ext {x y : Int32} (h : ∀ i, i < 32 → bt x i = bt y i) : x = y :=
  Int32.toBitVec_inj.mp (BitVec.eq_of_getLsbD_eq fun i hi => h i hi)
theorem bt_or (x y : Int32) (i : Nat) : bt (x ||| y) i = (bt x i || bt y i) := by simp [bt]
theorem bt_and (x y : Int32) (i : Nat) : bt (x &&& y) i = (bt x i && bt y i) := by simp [bt]
theorem bt_zero (i : Nat) : bt (ii 0) i = false := by
  show (0#32).getLsbD i = false
  simp
theorem bt_ge {x : Int32} {i : Nat} (h : 32 ≤ i) : bt x i = false := BitVec.getLsbD_of_ge _ _ h
theorem sh_amt {a : Nat} (h : a < 32) : ((ii a &&& ii 31).toBitVec.smod (32 : BitVec 32)).toNat = a := by
  have t : ∀ a : Fin 32, ((ii a.1 &&& ii 31).toBitVec.smod (32 : BitVec 32)).toNat = a.1 := by decide +kernel
  exact t ⟨a, h⟩
theorem bt_shl {a i : Nat} (h : a < 32) : bt (ii 1 <<< (ii a &&& ii 31)) i = decide (i = a) := by
  have e : (ii 1 <<< (ii a &&& ii 31)).toBitVec = (1#32) <<< a := by
    rw [Int32.toBitVec_shiftLeft, BitVec.shiftLeft_eq', sh_amt h]; rfl
  unfold bt
  rw [e, BitVec.getLsbD_shiftLeft, BitVec.getLsbD_one]
  by_cases h1 : i = a
  · subst h1; simp [h]
  · by_cases h2 : i < a
    · simp [h1, h2]
    · have h3 : i - a ≠ 0 := by omega
      simp [h1, h3]
theorem bt_shr {x : Int32} {a : Nat} (h : a < 32) : ((x >>> (ii a &&& ii 31)) &&& ii 1) = ii 1 ↔ bt x a = true := by
  have e : (x >>> (ii a &&& ii 31)).toBitVec = x.toBitVec.sshiftRight a := by
    rw [Int32.toBitVec_shiftRight, BitVec.sshiftRight_eq', sh_amt h]
  have e0 : bt (x >>> (ii a &&& ii 31)) 0 = bt x a := by
    unfold bt; rw [e, BitVec.getLsbD_sshiftRight]; simp [h]
  have e1 : ∀ i, bt (ii 1) i = decide (i = 0) := fun i => by
    show (1#32).getLsbD i = _
    rw [BitVec.getLsbD_one]; simp
  constructor
  · intro q
    have := congrArg (fun y => bt y 0) q
    simp only [bt_and, e0, e1] at this
    simpa using this
  · intro q
    refine bt_ext fun i _ => ?_
    rw [bt_and, e1]
    by_cases hi : i = 0
    · subst hi; rw [e0, q]; rfl
    · simp [hi]
theorem bt_ne {x : Int32} : x ≠ ii 0 ↔ ∃ i, i < 32 ∧ bt x i = true := by
  constructor
  · intro h
    refine Classical.byContradiction fun q => h (bt_ext fun i hi => ?_)
    rw [bt_zero]
    cases hb : bt x i with
    | false => rfl
    | true => exact absurd ⟨i, hi, hb⟩ q
  · rintro ⟨i, _, h⟩ rfl
    rw [bt_zero] at h; cases h
