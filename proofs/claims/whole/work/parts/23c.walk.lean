/-! lets, walk -/
theorem ll_div {a b : Nat} (ha : a < 9223372036854775808) (hb : b < 9223372036854775808) : ll a / ll b = ll (a / b) := (Int64.ofNat_div ha hb).symm
theorem ll_sub {a b : Nat} (h : b ≤ a) : ll a - ll b = ll (a - b) := (Int64.ofNat_sub a b h).symm
theorem ll_lt {a b : Nat} (ha : a < 9223372036854775808) (hb : b < 9223372036854775808) : ll a < ll b ↔ a < b := Int64.ofNat_lt_iff_lt ha hb
theorem ll_ii (a : Nat) : (ll a).toInt32 = ii a := Int64.toInt32_ofNat'
theorem ll_int {a : Nat} (h : a < 9223372036854775808) : (ll a).toInt = (a : Int) := Int64.toInt_ofNat_of_lt h
theorem ll_eq {a b : Nat} (ha : a < 9223372036854775808) (hb : b < 9223372036854775808) : ll a = ll b ↔ a = b := by
  rw [← Int64.toInt_inj, ll_int ha, ll_int hb]; omega
theorem l3 (x : Int64) : x < ll 0 ∨ ∃ r, r < 9223372036854775808 ∧ x = ll r := by
  by_cases h : x < ll 0
  · exact Or.inl h
  · have h0 : (0 : Int64) ≤ x := by
      rw [Int64.le_iff_toInt_le]; rw [Int64.lt_iff_toInt_lt, ll_int (by omega)] at h
      have : (0 : Int64).toInt = 0 := rfl
      omega
    exact Or.inr ⟨x.toNatClampNeg, x.toNatClampNeg_lt, (Int64.ofNat_toNatClampNeg x h0).symm⟩
theorem p12 (k : Nat) : 0 < 12 ^ k := Nat.pos_of_ne_zero (by exact Nat.ne_of_gt (Nat.pow_pos (by omega)))
theorem p12s (k : Nat) : 12 ^ (k + 1) = 12 * 12 ^ k := by rw [Nat.pow_succ, Nat.mul_comm]
theorem p12le {k : Nat} (h : k ≤ 12) : 12 ^ k ≤ 8916100448256 := by
  have := Nat.pow_le_pow_right (show 0 < 12 by omega) h
  have e : 12 ^ 12 = 8916100448256 := by decide
  omega
/-- the row's digits -/
def dg (r n k : Nat) : Nat := if k = 0 then r / 12 ^ n else r / 12 ^ (n - k) % 12
def wr (T : pw_T) (A d : Nat → Nat) : Nat → Nat → Option Nat → Nat × Option Nat
  | 0, j, o => (j, o)
  | r + 1, j, o => match o with
    | some (u + 1) => if A (u + 1) = d (j + 1) / 4 + 1 then wr T A d r (j + 1) (T (u + 1) (d (j + 1) % 4)) else (j, o)
    | _ => (j, o)
section
variable {N n : Nat} {T : pw_T} {A : Nat → Nat} {P : Nat → ql_St} {v : ql_V} {z : ql_Z}
abbrev tv (v : ql_V) (D : Nat → Int32) : ql_V := (ql_up v.1 9 D, v.2.1, v.2.2.1, v.2.2.2.1, v.2.2.2.2.1, v.2.2.2.2.2)
theorem c_tr24 : ∀ k m D r, k ≤ 12 → k + 1 ≤ m → r < 9223372036854775808 →
    (r / 12 ^ k < 4 → ∃ D', (∀ j, j ≤ k → D' j = ii (dg r k j)) ∧ (∀ j, k < j → D' j = D j) ∧ f_X10_takeRow_24 N P m (tv v D) (ll r) (ii k) = some (ii 1, tv v D')) ∧
    (¬ r / 12 ^ k < 4 → ∃ D', f_X10_takeRow_24 N P m (tv v D) (ll r) (ii k) = some (ii 0, tv v D')) := by
  intro k
  induction k with
  | zero =>
    intro m D r hk hm hr
    obtain ⟨m, rfl⟩ : ∃ j, m = j + 1 := ⟨m - 1, by omega⟩
    have e0 : r / 12 ^ 0 = r := by rw [Nat.pow_zero, Nat.div_one]
    rw [e0, f_X10_takeRow_24]
    have z0 : ii 0 ≤ (0 : Int32) := le_y 0 (Nat.le_refl 0) (by omega)
    have c4 : lg_cmp (ll r) 4 < 0 ↔ r < 4 := by
      have := lc_lt (ll r) (ll 4)
      rw [ll_lt hr (by omega)] at this
      exact this
    constructor
    · intro h
      refine ⟨upd D 0 (ii r), fun j hj => ?_, fun j hj => ud_ne (by omega), ?_⟩
      · obtain rfl : j = 0 := by omega
        rw [ud_same, dg, if_pos rfl, e0]
      · refine sp z0 (sp (c4.mpr h) ?_)
        rw [ll_ii]
        show some (ii 1, (ql_up (ql_up v.1 9 D) 9 (upd (ql_up v.1 9 D 9) 0 (ii r)), _)) = _
        rw [up_up, up_same]
    · intro h
      exact ⟨D, sp z0 (sn (fun x => h (c4.mp x)) rfl)⟩
  | succ k ih =>
    intro m D r hk hm hr
    obtain ⟨m, rfl⟩ : ∃ j, m = j + 1 := ⟨m - 1, by omega⟩
    have e1 : r / 12 / 12 ^ k = r / 12 ^ (k + 1) := by rw [Nat.div_div_eq_div_mul, p12s]
    have hr' : r / 12 < 9223372036854775808 := by omega
    obtain ⟨i1, i2⟩ := ih m (upd D (k + 1) (ii (r % 12))) (r / 12) (by omega) (by omega) hr'
    rw [e1] at i1 i2
    have key : f_X10_takeRow_24 N P (m + 1) (tv v D) (ll r) (ii (k + 1)) = f_X10_takeRow_24 N P m (tv v (upd D (k + 1) (ii (r % 12)))) (ll (r / 12)) (ii k) := by
      rw [f_X10_takeRow_24]
      refine sn (le_n 0 (by omega) (by omega)) (sp (ii_ib (by omega) (by omega)) ?_)
      rw [ii_nat (by omega), ll_12, ll_div hr (by omega), ll_mul, ll_sub (by omega), ll_ii, show r - r / 12 * 12 = r % 12 by omega, lk_1, ii_dec (by omega), show k + 1 - 1 = k by omega]
      show f_X10_takeRow_24 N P m (ql_up (ql_up v.1 9 D) 9 (upd (ql_up v.1 9 D 9) (k + 1) (ii (r % 12))), _) _ _ = _
      rw [up_up, up_same]
    rw [key]
    constructor
    · intro h
      obtain ⟨D', a1, a2, a3⟩ := i1 h
      refine ⟨D', fun j hj => ?_, fun j hj => by rw [a2 j (by omega), ud_ne (by omega)], a3⟩
      by_cases e : j = k + 1
      · subst e
        rw [a2 (k + 1) (by omega), ud_same, dg, if_neg (by omega), Nat.sub_self, Nat.pow_zero, Nat.div_one]
      · rw [a1 j (by omega), dg, dg]
        by_cases q : j = 0
        · rw [if_pos q, if_pos q, e1]
        · rw [if_neg q, if_neg q, Nat.div_div_eq_div_mul, show k + 1 - j = (k - j) + 1 by omega, p12s]
    · exact i2
theorem c_take (x1 : Int32) (x2 : Int64) (hN : 1000 ≤ N) :
    (∃ t r D', t ≤ 12 ∧ r < 4 * 12 ^ t ∧ x1 = ii t ∧ x2 = ll r ∧ (∀ j, j ≤ t → D' j = ii (dg r t j)) ∧ f_X10_takeRow N P v x1 x2 = some (ii 1, tv v D')) ∨
    (((x1 < ii 0 ∨ ∃ t, 12 < t ∧ t < 2147483648 ∧ x1 = ii t) ∨ ∃ t, t ≤ 12 ∧ x1 = ii t ∧ (x2 < ll 0 ∨ ∃ r, r < 9223372036854775808 ∧ 4 * 12 ^ t ≤ r ∧ x2 = ll r)) ∧ ∃ D', f_X10_takeRow N P v x1 x2 = some (ii 0, tv v D')) := by
  have ev : tv v (v.1 9) = v := by
    show (ql_up v.1 9 (v.1 9), _) = v
    rw [up_self]
  unfold f_X10_takeRow f_X10_takeRow_0
  rcases i3 x1 with h1 | ⟨t, ht, rfl⟩
  · exact Or.inr ⟨Or.inl (Or.inl h1), v.1 9, by rw [ev]; exact sp h1 rfl⟩
  · have n0 : ¬ ii t < (0 : Int32) := nl0 ht
    by_cases h12 : t ≤ 12
    · have n12 : ¬ (12 : Int32) < ii t := lt_n (a := 12) t (by omega) (by omega)
      have pos := p12 t
      have le := p12le h12
      rcases l3 x2 with h2 | ⟨r, hr, rfl⟩
      · refine Or.inr ⟨Or.inr ⟨t, h12, rfl, Or.inl h2⟩, v.1 9, ?_⟩
        rw [ev]
        refine sn n0 (sn n12 (sn (fun x => ?_) rfl))
        have := (lc_lt x2 (ll 0)).mpr h2
        rw [Int32.lt_iff_toInt_lt] at this
        have x : ii 0 ≤ lg_cmp x2 (ll 0) := x
        rw [Int32.le_iff_toInt_le] at x
        omega
      · have g0 : (0 : Int32) ≤ lg_cmp (ll r) 0 := by
          have : ¬ lg_cmp (ll r) (ll 0) < ii 0 := fun x => by
            have := (lc_lt _ _).mp x
            rw [ll_lt hr (by omega)] at this; omega
          rw [Int32.lt_iff_toInt_lt] at this
          show ii 0 ≤ lg_cmp (ll r) (ll 0)
          rw [Int32.le_iff_toInt_le]; omega
        obtain ⟨a, b⟩ := c_tr24 (N := N) (P := P) (v := v) t N (v.1 9) r h12 (by omega) hr
        rw [ev] at a b
        have iff4 : r / 12 ^ t < 4 ↔ r < 4 * 12 ^ t := Nat.div_lt_iff_lt_mul pos
        by_cases q : r / 12 ^ t < 4
        · obtain ⟨D', a1, a2, a3⟩ := a q
          exact Or.inl ⟨t, r, D', h12, iff4.mp q, rfl, rfl, a1, sn n0 (sn n12 (sp g0 a3))⟩
        · obtain ⟨D', a3⟩ := b q
          exact Or.inr ⟨Or.inr ⟨t, h12, rfl, Or.inr ⟨r, hr, Nat.le_of_not_lt (fun x => q (iff4.mpr x)), rfl⟩⟩, D', sn n0 (sn n12 (sp g0 a3))⟩
    · have y12 : (12 : Int32) < ii t := lt_y (a := 12) t (by omega) ht
      exact Or.inr ⟨Or.inl (Or.inr ⟨t, by omega, ht, rfl⟩), v.1 9, by rw [ev]; exact sn n0 (sp y12 rfl)⟩
abbrev fv (v : ql_V) (D : Nat → Int32) (c g : Int32) : ql_V := (ql_up (ql_up (ql_up v.1 9 D) 12 (fun _ => c)) 13 (fun _ => g), v.2.1, v.2.2.1, v.2.2.2.1, v.2.2.2.2.1, v.2.2.2.2.2)
theorem dg_lt {r t k : Nat} (hr : r < 4 * 12 ^ t) : dg r t k < 12 := by
  unfold dg
  by_cases q : k = 0
  · rw [if_pos q]
    have := (Nat.div_lt_iff_lt_mul (p12 t)).mpr hr
    omega
  · rw [if_neg q]; exact Nat.mod_lt _ (by omega)
theorem c_fo22 {i t r : Nat} {D : Nat → Int32} (hT : c_tab (P i) n T) (hA : c_act (P i 5) n A) (ok : pw_ok n T A) (ht : t ≤ 12) (hr : r < 4 * 12 ^ t) (hD : ∀ j, j ≤ t → D j = ii (dg r t j)) : ∀ q j m o, j + q = t → q + 1 ≤ m → (∀ u, o = some u → u ≤ n) →
    f_X10_follow_22 N P m (fv v D (ii j) (ec o)) i (ii t) (ii (j + 1)) = some (fv v D (ii (wr T A (dg r t) q j o).1) (ec (wr T A (dg r t) q j o).2)) := by
  intro q
  induction q with
  | zero =>
    intro j m o hj hm ho
    obtain ⟨m, rfl⟩ : ∃ j, m = j + 1 := ⟨m - 1, by omega⟩
    rw [f_X10_follow_22]
    exact sp (by rw [ii_lt (by omega) (by omega)]; omega) rfl
  | succ q ih =>
    intro j m o hj hm ho
    obtain ⟨m, rfl⟩ : ∃ j, m = j + 1 := ⟨m - 1, by omega⟩
    have hn := ok.1
    have e13 : (fv v D (ii j) (ec o)).1 13 0 = ec o := rfl
    have e12 : (fv v D (ii j) (ec o)).1 12 0 = ii j := rfl
    have e9 : (fv v D (ii j) (ec o)).1 9 (ii (j + 1)).toNatClampNeg = ii (dg r t (j + 1)) := by
      rw [ii_nat (by omega), ← hD (j + 1) (by omega)]; rfl
    have hd := dg_lt (k := j + 1) hr
    rw [f_X10_follow_22, e13, e12, e9]
    refine sn (by rw [ii_lt (by omega) (by omega)]; omega) ?_
    have e0 : ¬ ii 0 = ii (dg r t (j + 1)) / 4 + 1 := by
      rw [lk_4, lk_1, ii_div (by omega) (by omega), ii_add, ii_eq (by omega) (by omega)]; omega
    cases o with
    | none => exact sb c_aa9 (sp (ii_ib (by omega) (by omega)) (sn e0 rfl))
    | some u => cases u with
      | zero => exact sb c_aa0 (sp (ii_ib (by omega) (by omega)) (sn e0 rfl))
      | succ u =>
        have hu := ho _ rfl
        have hAu := ok.2.2 (u + 1) (by omega) hu
        refine sb (c_aa hT.2 hn (by omega) hu) (sp (ii_ib (by omega) (by omega)) ?_)
        rw [hA (u + 1) (by omega) hu, lk_4, lk_1, ii_div (by omega) (by omega), ii_add]
        have e : ii (A (u + 1)) = ii (dg r t (j + 1) / 4 + 1) ↔ A (u + 1) = dg r t (j + 1) / 4 + 1 := ii_eq (by omega) (by omega)
        unfold wr
        by_cases c : A (u + 1) = dg r t (j + 1) / 4 + 1
        · rw [if_pos (e.mpr c)]
          refine sp (ii_ib (by omega) (by omega)) ?_
          show (f_X6_goes N (P i) (ii (u + 1)) (ii (dg r t (j + 1)) - ii (dg r t (j + 1) / 4) * ii 4)).bind _ = _
          rw [ii_mul, ii_sub (by omega), show dg r t (j + 1) - dg r t (j + 1) / 4 * 4 = dg r t (j + 1) % 4 by omega, c_goes hT hn hu (by omega), bd_s, ii_add, ii_add]
          have ih := ih (j + 1) m (T (u + 1) (dg r t (j + 1) % 4)) (by omega) (by omega) (fun w hw => ok.2.1 _ _ _ hu (by omega) hw)
          show f_X10_follow_22 N P m (ql_up (ql_up (ql_up (ql_up (ql_up v.1 9 D) 12 _) 13 _) 12 _) 13 _, _) i (ii t) (ii (j + 1 + 1)) = _
          rw [up_w (by decide), ih]
          simp only [if_pos c]
        · rw [if_neg (fun x => c (e.mp x))]
          simp only [if_neg c]
/-! the reference's walks -/
def lf (r t j : Nat) : Nat := if j = 0 then r else r % 12 ^ (t - j + 1)
theorem lf_d {r t j : Nat} (hj : j ≤ t) : lf r t j / 12 ^ (t - j) = dg r t j := by
  unfold lf dg
  by_cases q : j = 0
  · subst q; rw [if_pos rfl, if_pos rfl, Nat.sub_zero]
  · rw [if_neg q, if_neg q, Nat.pow_succ, Nat.mod_mul_right_div_self]
theorem lf_m {r t j : Nat} (hj : j < t) : lf r t j % 12 ^ (t - j) = lf r t (j + 1) := by
  unfold lf
  rw [if_neg (show ¬ j + 1 = 0 by omega), show t - (j + 1) + 1 = t - j by omega]
  by_cases q : j = 0
  · rw [if_pos q]
  · rw [if_neg q, Nat.mod_mod_of_dvd _ (Nat.pow_dvd_pow 12 (by omega))]
theorem lf_le {r t j : Nat} : lf r t j ≤ r := by
  unfold lf
  by_cases q : j = 0
  · rw [if_pos q]; exact Nat.le_refl _
  · rw [if_neg q]; exact Nat.mod_le _ _
end
