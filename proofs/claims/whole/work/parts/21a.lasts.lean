/-! the last atoms: the class's gatherLasts, the reference's ends -/
section
variable {N n : Nat} {T : pw_T}
theorem c_isp {s : ql_St} {p : Nat} (h6 : s 6 0 = ii n) (hn : n ≤ 16) (h1 : 1 ≤ p) (hp : p ≤ n) : f_X6_isPlace N s (ii p) = some (ii 1) := by
  unfold f_X6_isPlace f_X6_isPlace_0
  rw [h6]; simp (disch := omega) only [lk_0, lk_1, lk_2, lk_3, lk_4, lk_5, lk_6, lk_7, lk_8, lk_9, lk_10, lk_11, lk_12, lk_13, lk_14, lk_15, lk_16, lk_17, lk_18, lk_19, lk_20, lk_21, lk_22, lk_23, lk_24, lk_25, lk_26, lk_31, lk_32, lk_68, lk_97, lk_100, lk_122, lk_200, lk_255, lk_299, lk_300, lk_301, lk_310, lk_324, lk_400, lk_800, lk_1000, lk_1600, lk_2000, lk_10000, ii_add, ii_mul, ii_lt, ii_le, ii_eq, ii_nat, ib_t, ni_lt_ii, ni_le_ii, ii_lt_ni, ii_le_ni, ni_eq_ii, ii_eq_ni, ni_eq_ni, if_pos, if_neg, if_true, if_false, eq_self, and_self, not_true_eq_false, not_false_eq_true, bd_s, up_same, up_ne, ud_same, ud_ne]
theorem c_isp0 {s : ql_St} : f_X6_isPlace N s (ii 0) = some (ii 0) := by
  unfold f_X6_isPlace f_X6_isPlace_0
  simp (disch := omega) only [lk_0, lk_1, lk_2, lk_3, lk_4, lk_5, lk_6, lk_7, lk_8, lk_9, lk_10, lk_11, lk_12, lk_13, lk_14, lk_15, lk_16, lk_17, lk_18, lk_19, lk_20, lk_21, lk_22, lk_23, lk_24, lk_25, lk_26, lk_31, lk_32, lk_68, lk_97, lk_100, lk_122, lk_200, lk_255, lk_299, lk_300, lk_301, lk_310, lk_324, lk_400, lk_800, lk_1000, lk_1600, lk_2000, lk_10000, ii_add, ii_mul, ii_lt, ii_le, ii_eq, ii_nat, ib_t, ni_lt_ii, ni_le_ii, ii_lt_ni, ii_le_ni, ni_eq_ii, ii_eq_ni, ni_eq_ni, if_pos, if_neg, if_true, if_false, eq_self, and_self, not_true_eq_false, not_false_eq_true, bd_s, up_same, up_ne, ud_same, ud_ne]
theorem c_isp9 {s : ql_St} : f_X6_isPlace N s (-ii 9) = some (ii 0) := by
  unfold f_X6_isPlace f_X6_isPlace_0
  simp (disch := omega) only [lk_0, lk_1, lk_2, lk_3, lk_4, lk_5, lk_6, lk_7, lk_8, lk_9, lk_10, lk_11, lk_12, lk_13, lk_14, lk_15, lk_16, lk_17, lk_18, lk_19, lk_20, lk_21, lk_22, lk_23, lk_24, lk_25, lk_26, lk_31, lk_32, lk_68, lk_97, lk_100, lk_122, lk_200, lk_255, lk_299, lk_300, lk_301, lk_310, lk_324, lk_400, lk_800, lk_1000, lk_1600, lk_2000, lk_10000, ii_add, ii_mul, ii_lt, ii_le, ii_eq, ii_nat, ib_t, ni_lt_ii, ni_le_ii, ii_lt_ni, ii_le_ni, ni_eq_ii, ii_eq_ni, ni_eq_ni, if_pos, if_neg, if_true, if_false, eq_self, and_self, not_true_eq_false, not_false_eq_true, bd_s, up_same, up_ne, ud_same, ud_ne]
theorem c_ispg {s : ql_St} {p : Nat} (h6 : s 6 0 = ii n) (hn : n ≤ 16) (h1 : n < p) (hp : p < 2147483648) : f_X6_isPlace N s (ii p) = some (ii 0) := by
  unfold f_X6_isPlace f_X6_isPlace_0
  rw [h6]; simp (disch := omega) only [lk_0, lk_1, lk_2, lk_3, lk_4, lk_5, lk_6, lk_7, lk_8, lk_9, lk_10, lk_11, lk_12, lk_13, lk_14, lk_15, lk_16, lk_17, lk_18, lk_19, lk_20, lk_21, lk_22, lk_23, lk_24, lk_25, lk_26, lk_31, lk_32, lk_68, lk_97, lk_100, lk_122, lk_200, lk_255, lk_299, lk_300, lk_301, lk_310, lk_324, lk_400, lk_800, lk_1000, lk_1600, lk_2000, lk_10000, ii_add, ii_mul, ii_lt, ii_le, ii_eq, ii_nat, ib_t, ni_lt_ii, ni_le_ii, ii_lt_ni, ii_le_ni, ni_eq_ii, ii_eq_ni, ni_eq_ni, if_pos, if_neg, if_true, if_false, eq_self, and_self, not_true_eq_false, not_false_eq_true, bd_s, up_same, up_ne, ud_same, ud_ne]
theorem c_cgf {s : ql_St} {p : Nat} (h6 : s 6 0 = ii n) (hn : n ≤ 16) (hp : p ≤ n) : f_X6_canGoFrom N s (ii p) = some (ii 1) := by
  unfold f_X6_canGoFrom f_X6_canGoFrom_0
  rw [h6]; simp (disch := omega) only [lk_0, lk_1, lk_2, lk_3, lk_4, lk_5, lk_6, lk_7, lk_8, lk_9, lk_10, lk_11, lk_12, lk_13, lk_14, lk_15, lk_16, lk_17, lk_18, lk_19, lk_20, lk_21, lk_22, lk_23, lk_24, lk_25, lk_26, lk_31, lk_32, lk_68, lk_97, lk_100, lk_122, lk_200, lk_255, lk_299, lk_300, lk_301, lk_310, lk_324, lk_400, lk_800, lk_1000, lk_1600, lk_2000, lk_10000, ii_add, ii_mul, ii_lt, ii_le, ii_eq, ii_nat, ib_t, ni_lt_ii, ni_le_ii, ii_lt_ni, ii_le_ni, ni_eq_ii, ii_eq_ni, ni_eq_ni, if_pos, if_neg, if_true, if_false, eq_self, and_self, not_true_eq_false, not_false_eq_true, bd_s, up_same, up_ne, ud_same, ud_ne]
theorem c_cgg {s : ql_St} {p : Nat} (h6 : s 6 0 = ii n) (hn : n ≤ 16) (h1 : n < p) (hp : p < 2147483648) : f_X6_canGoFrom N s (ii p) = some (ii 0) := by
  unfold f_X6_canGoFrom f_X6_canGoFrom_0
  rw [h6]; simp (disch := omega) only [lk_0, lk_1, lk_2, lk_3, lk_4, lk_5, lk_6, lk_7, lk_8, lk_9, lk_10, lk_11, lk_12, lk_13, lk_14, lk_15, lk_16, lk_17, lk_18, lk_19, lk_20, lk_21, lk_22, lk_23, lk_24, lk_25, lk_26, lk_31, lk_32, lk_68, lk_97, lk_100, lk_122, lk_200, lk_255, lk_299, lk_300, lk_301, lk_310, lk_324, lk_400, lk_800, lk_1000, lk_1600, lk_2000, lk_10000, ii_add, ii_mul, ii_lt, ii_le, ii_eq, ii_nat, ib_t, ni_lt_ii, ni_le_ii, ii_lt_ni, ii_le_ni, ni_eq_ii, ii_eq_ni, ni_eq_ni, if_pos, if_neg, if_true, if_false, eq_self, and_self, not_true_eq_false, not_false_eq_true, bd_s, up_same, up_ne, ud_same, ud_ne]
theorem c_ispn {s : ql_St} {x : Int32} (h : x < ii 0) : f_X6_isPlace N s x = some (ii 0) := by
  unfold f_X6_isPlace f_X6_isPlace_0
  rw [lk_0, if_pos (Int32.le_of_lt h)]
theorem c_cgn {s : ql_St} {x : Int32} (h : x < ii 0) : f_X6_canGoFrom N s x = some (ii 0) := by
  unfold f_X6_canGoFrom f_X6_canGoFrom_0
  rw [lk_0, if_pos h]
theorem c_aa {s : ql_St} {p : Nat} (h6 : s 6 0 = ii n) (hn : n ≤ 16) (h1 : 1 ≤ p) (hp : p ≤ n) : f_X6_actAt N s (ii p) = some (s 5 p) := by
  unfold f_X6_actAt f_X6_actAt_0
  rw [c_isp h6 hn h1 hp, bd_s]; simp (disch := omega) only [lk_0, lk_1, lk_2, lk_3, lk_4, lk_5, lk_6, lk_7, lk_8, lk_9, lk_10, lk_11, lk_12, lk_13, lk_14, lk_15, lk_16, lk_17, lk_18, lk_19, lk_20, lk_21, lk_22, lk_23, lk_24, lk_25, lk_26, lk_31, lk_32, lk_68, lk_97, lk_100, lk_122, lk_200, lk_255, lk_299, lk_300, lk_301, lk_310, lk_324, lk_400, lk_800, lk_1000, lk_1600, lk_2000, lk_10000, ii_add, ii_mul, ii_lt, ii_le, ii_eq, ii_nat, ib_t, ni_lt_ii, ni_le_ii, ii_lt_ni, ii_le_ni, ni_eq_ii, ii_eq_ni, ni_eq_ni, if_pos, if_neg, if_true, if_false, eq_self, and_self, not_true_eq_false, not_false_eq_true, bd_s, up_same, up_ne, ud_same, ud_ne]
theorem c_aa0 {s : ql_St} : f_X6_actAt N s (ii 0) = some (ii 0) := by
  unfold f_X6_actAt f_X6_actAt_0
  rw [c_isp0, bd_s]; simp (disch := omega) only [lk_0, lk_1, lk_2, lk_3, lk_4, lk_5, lk_6, lk_7, lk_8, lk_9, lk_10, lk_11, lk_12, lk_13, lk_14, lk_15, lk_16, lk_17, lk_18, lk_19, lk_20, lk_21, lk_22, lk_23, lk_24, lk_25, lk_26, lk_31, lk_32, lk_68, lk_97, lk_100, lk_122, lk_200, lk_255, lk_299, lk_300, lk_301, lk_310, lk_324, lk_400, lk_800, lk_1000, lk_1600, lk_2000, lk_10000, ii_add, ii_mul, ii_lt, ii_le, ii_eq, ii_nat, ib_t, ni_lt_ii, ni_le_ii, ii_lt_ni, ii_le_ni, ni_eq_ii, ii_eq_ni, ni_eq_ni, if_pos, if_neg, if_true, if_false, eq_self, and_self, not_true_eq_false, not_false_eq_true, bd_s, up_same, up_ne, ud_same, ud_ne]
theorem c_aa9 {s : ql_St} : f_X6_actAt N s (-ii 9) = some (ii 0) := by
  unfold f_X6_actAt f_X6_actAt_0
  rw [c_isp9, bd_s]; simp (disch := omega) only [lk_0, lk_1, lk_2, lk_3, lk_4, lk_5, lk_6, lk_7, lk_8, lk_9, lk_10, lk_11, lk_12, lk_13, lk_14, lk_15, lk_16, lk_17, lk_18, lk_19, lk_20, lk_21, lk_22, lk_23, lk_24, lk_25, lk_26, lk_31, lk_32, lk_68, lk_97, lk_100, lk_122, lk_200, lk_255, lk_299, lk_300, lk_301, lk_310, lk_324, lk_400, lk_800, lk_1000, lk_1600, lk_2000, lk_10000, ii_add, ii_mul, ii_lt, ii_le, ii_eq, ii_nat, ib_t, ni_lt_ii, ni_le_ii, ii_lt_ni, ii_le_ni, ni_eq_ii, ii_eq_ni, ni_eq_ni, if_pos, if_neg, if_true, if_false, eq_self, and_self, not_true_eq_false, not_false_eq_true, bd_s, up_same, up_ne, ud_same, ud_ne]
theorem c_goes {s : ql_St} {p a : Nat} (hT : c_tab s n T) (hn : n ≤ 16) (hp : p ≤ n) (ha : a < 4) : f_X6_goes N s (ii p) (ii a) = some (ec (T p a)) := by
  unfold f_X6_goes f_X6_goes_0
  rw [c_cgf hT.2 hn hp, bd_s]
  unfold f_X6_goes_22
  simp (disch := omega) only [lk_0, lk_1, lk_2, lk_3, lk_4, lk_5, lk_6, lk_7, lk_8, lk_9, lk_10, lk_11, lk_12, lk_13, lk_14, lk_15, lk_16, lk_17, lk_18, lk_19, lk_20, lk_21, lk_22, lk_23, lk_24, lk_25, lk_26, lk_31, lk_32, lk_68, lk_97, lk_100, lk_122, lk_200, lk_255, lk_299, lk_300, lk_301, lk_310, lk_324, lk_400, lk_800, lk_1000, lk_1600, lk_2000, lk_10000, ii_add, ii_mul, ii_lt, ii_le, ii_eq, ii_nat, ib_t, ni_lt_ii, ni_le_ii, ii_lt_ni, ii_le_ni, ni_eq_ii, ii_eq_ni, ni_eq_ni, if_pos, if_neg, if_true, if_false, eq_self, and_self, not_true_eq_false, not_false_eq_true, bd_s, up_same, up_ne, ud_same, ud_ne]
  rw [hT.1 p a hp ha]
theorem c_goesg {s : ql_St} {p a : Nat} (h6 : s 6 0 = ii n) (hn : n ≤ 16) (h1 : n < p) (hp : p < 2147483648) : f_X6_goes N s (ii p) (ii a) = some (-ii 9) := by
  unfold f_X6_goes f_X6_goes_0
  rw [c_cgg h6 hn h1 hp, bd_s]
  unfold f_X6_goes_21 f_X6_goes_22
  simp (disch := omega) only [lk_0, lk_1, lk_2, lk_3, lk_4, lk_5, lk_6, lk_7, lk_8, lk_9, lk_10, lk_11, lk_12, lk_13, lk_14, lk_15, lk_16, lk_17, lk_18, lk_19, lk_20, lk_21, lk_22, lk_23, lk_24, lk_25, lk_26, lk_31, lk_32, lk_68, lk_97, lk_100, lk_122, lk_200, lk_255, lk_299, lk_300, lk_301, lk_310, lk_324, lk_400, lk_800, lk_1000, lk_1600, lk_2000, lk_10000, ii_add, ii_mul, ii_lt, ii_le, ii_eq, ii_nat, ib_t, ni_lt_ii, ni_le_ii, ii_lt_ni, ii_le_ni, ni_eq_ii, ii_eq_ni, ni_eq_ni, if_pos, if_neg, if_true, if_false, eq_self, and_self, not_true_eq_false, not_false_eq_true, bd_s, up_same, up_ne, ud_same, ud_ne]
theorem c_lastsBy {s : ql_St} {p a : Nat} (hT : c_tab s n T) (g : pw_g n T) (hn : n ≤ 16) (hp : p ≤ n) (ha : a < 4) : f_X6_lastsBy N s (ii p) (ii a) = some (lb T (s 8) p a) := by
  unfold f_X6_lastsBy f_X6_lastsBy_0
  rw [c_goes hT hn hp ha, bd_s]
  have hv := g p a
  unfold lb
  cases e : T p a with
  | none => simp only [ec]; rw [c_isp9]; simp (disch := omega) only [lk_0, lk_1, lk_2, lk_3, lk_4, lk_5, lk_6, lk_7, lk_8, lk_9, lk_10, lk_11, lk_12, lk_13, lk_14, lk_15, lk_16, lk_17, lk_18, lk_19, lk_20, lk_21, lk_22, lk_23, lk_24, lk_25, lk_26, lk_31, lk_32, lk_68, lk_97, lk_100, lk_122, lk_200, lk_255, lk_299, lk_300, lk_301, lk_310, lk_324, lk_400, lk_800, lk_1000, lk_1600, lk_2000, lk_10000, ii_add, ii_mul, ii_lt, ii_le, ii_eq, ii_nat, ib_t, ni_lt_ii, ni_le_ii, ii_lt_ni, ii_le_ni, ni_eq_ii, ii_eq_ni, ni_eq_ni, if_pos, if_neg, if_true, if_false, eq_self, and_self, not_true_eq_false, not_false_eq_true, bd_s, up_same, up_ne, ud_same, ud_ne]
  | some v => cases v with
    | zero => simp only [ec]; simp (disch := omega) only [lk_0, lk_1, lk_2, lk_3, lk_4, lk_5, lk_6, lk_7, lk_8, lk_9, lk_10, lk_11, lk_12, lk_13, lk_14, lk_15, lk_16, lk_17, lk_18, lk_19, lk_20, lk_21, lk_22, lk_23, lk_24, lk_25, lk_26, lk_31, lk_32, lk_68, lk_97, lk_100, lk_122, lk_200, lk_255, lk_299, lk_300, lk_301, lk_310, lk_324, lk_400, lk_800, lk_1000, lk_1600, lk_2000, lk_10000, ii_add, ii_mul, ii_lt, ii_le, ii_eq, ii_nat, ib_t, ni_lt_ii, ni_le_ii, ii_lt_ni, ii_le_ni, ni_eq_ii, ii_eq_ni, ni_eq_ni, if_pos, if_neg, if_true, if_false, eq_self, and_self, not_true_eq_false, not_false_eq_true, bd_s, up_same, up_ne, ud_same, ud_ne]
    | succ v =>
      have := hv _ hp ha e
      simp only [ec]; rw [c_isp hT.2 hn (by omega) this]; simp (disch := omega) only [lk_0, lk_1, lk_2, lk_3, lk_4, lk_5, lk_6, lk_7, lk_8, lk_9, lk_10, lk_11, lk_12, lk_13, lk_14, lk_15, lk_16, lk_17, lk_18, lk_19, lk_20, lk_21, lk_22, lk_23, lk_24, lk_25, lk_26, lk_31, lk_32, lk_68, lk_97, lk_100, lk_122, lk_200, lk_255, lk_299, lk_300, lk_301, lk_310, lk_324, lk_400, lk_800, lk_1000, lk_1600, lk_2000, lk_10000, ii_add, ii_mul, ii_lt, ii_le, ii_eq, ii_nat, ib_t, ni_lt_ii, ni_le_ii, ii_lt_ni, ii_le_ni, ni_eq_ii, ii_eq_ni, ni_eq_ni, if_pos, if_neg, if_true, if_false, eq_self, and_self, not_true_eq_false, not_false_eq_true, bd_s, up_same, up_ne, ud_same, ud_ne]
theorem c_gl45s {s : ql_St} {p a m : Nat} {L : Nat → Int32} {x1 : Int32} {k25 : ql_St → Int32 → Option ql_St} {k35 : ql_St → Int32 → Int32 → Option ql_St} (hT : c_tab s n T) (g : pw_g n T) (hn : n ≤ 16) (hp : p ≤ n) (ha : a < 4) :
    f_X6_gatherLasts_45 N k25 k35 (m + 1) (ql_up s 8 L) x1 (ii p) (ii a) = f_X6_gatherLasts_45 N k25 k35 m (ql_up s 8 (l1 T L p a)) x1 (ii p) (ii (a + 1)) := by
  have h := c_lastsBy (N := N) (s := ql_up s 8 L) (p := p) (a := a) hT g hn hp ha
  rw [f_X6_gatherLasts_45, h]
  simp (disch := omega) only [lk_0, lk_1, lk_2, lk_3, lk_4, lk_5, lk_6, lk_7, lk_8, lk_9, lk_10, lk_11, lk_12, lk_13, lk_14, lk_15, lk_16, lk_17, lk_18, lk_19, lk_20, lk_21, lk_22, lk_23, lk_24, lk_25, lk_26, lk_31, lk_32, lk_68, lk_97, lk_100, lk_122, lk_200, lk_255, lk_299, lk_300, lk_301, lk_310, lk_324, lk_400, lk_800, lk_1000, lk_1600, lk_2000, lk_10000, ii_add, ii_mul, ii_lt, ii_le, ii_eq, ii_nat, ib_t, ni_lt_ii, ni_le_ii, ii_lt_ni, ii_le_ni, ni_eq_ii, ii_eq_ni, ni_eq_ni, if_pos, if_neg, if_true, if_false, eq_self, and_self, not_true_eq_false, not_false_eq_true, bd_s, up_same, up_ne, ud_same, ud_ne]
  rw [up_up]; rfl
theorem c_gl45 {s : ql_St} {p m : Nat} {L : Nat → Int32} {x1 : Int32} {k25 : ql_St → Int32 → Option ql_St} {k35 : ql_St → Int32 → Int32 → Option ql_St} (hT : c_tab s n T) (g : pw_g n T) (hn : n ≤ 16) (hp : p ≤ n) (hm : 5 ≤ m) :
    f_X6_gatherLasts_45 N k25 k35 m (ql_up s 8 L) x1 (ii p) 0 = k35 (ql_up s 8 (l4 T L p)) x1 (ii (p + 1)) := by
  obtain ⟨m, rfl⟩ : ∃ j, m = j + 5 := ⟨m - 5, by omega⟩
  rw [lk_0, c_gl45s hT g hn hp (by omega), c_gl45s hT g hn hp (by omega), c_gl45s hT g hn hp (by omega), c_gl45s hT g hn hp (by omega), f_X6_gatherLasts_45]
  simp (disch := omega) only [lk_0, lk_1, lk_2, lk_3, lk_4, lk_5, lk_6, lk_7, lk_8, lk_9, lk_10, lk_11, lk_12, lk_13, lk_14, lk_15, lk_16, lk_17, lk_18, lk_19, lk_20, lk_21, lk_22, lk_23, lk_24, lk_25, lk_26, lk_31, lk_32, lk_68, lk_97, lk_100, lk_122, lk_200, lk_255, lk_299, lk_300, lk_301, lk_310, lk_324, lk_400, lk_800, lk_1000, lk_1600, lk_2000, lk_10000, ii_add, ii_mul, ii_lt, ii_le, ii_eq, ii_nat, ib_t, ni_lt_ii, ni_le_ii, ii_lt_ni, ii_le_ni, ni_eq_ii, ii_eq_ni, ni_eq_ni, if_pos, if_neg, if_true, if_false, eq_self, and_self, not_true_eq_false, not_false_eq_true, bd_s, up_same, up_ne, ud_same, ud_ne]
  rfl
theorem c_gl35 {s : ql_St} {L : Nat → Int32} {x1 : Int32} {k25 : ql_St → Int32 → Option ql_St} (h6 : s 6 0 = ii n) (hT : c_tab s n T) (g : pw_g n T) (hn : n ≤ 16) (hN : 1000 ≤ N) :
    ∀ j p m, p + j = n + 1 → j + 1 ≤ m → f_X6_gatherLasts_35 N k25 m (ql_up s 8 (lr T p L)) x1 (ii p) = k25 (ql_up s 8 (lr T (n + 1) L)) (x1 + 1)
  | 0, p, m, hp, hm => by
    obtain ⟨m, rfl⟩ : ∃ j, m = j + 1 := ⟨m - 1, by omega⟩
    obtain rfl : p = n + 1 := by omega
    rw [f_X6_gatherLasts_35, up_ne (by decide), h6]
    simp (disch := omega) only [lk_0, lk_1, lk_2, lk_3, lk_4, lk_5, lk_6, lk_7, lk_8, lk_9, lk_10, lk_11, lk_12, lk_13, lk_14, lk_15, lk_16, lk_17, lk_18, lk_19, lk_20, lk_21, lk_22, lk_23, lk_24, lk_25, lk_26, lk_31, lk_32, lk_68, lk_97, lk_100, lk_122, lk_200, lk_255, lk_299, lk_300, lk_301, lk_310, lk_324, lk_400, lk_800, lk_1000, lk_1600, lk_2000, lk_10000, ii_add, ii_mul, ii_lt, ii_le, ii_eq, ii_nat, ib_t, ni_lt_ii, ni_le_ii, ii_lt_ni, ii_le_ni, ni_eq_ii, ii_eq_ni, ni_eq_ni, if_pos, if_neg, if_true, if_false, eq_self, and_self, not_true_eq_false, not_false_eq_true, bd_s, up_same, up_ne, ud_same, ud_ne]
  | j + 1, p, m, hp, hm => by
    obtain ⟨m, rfl⟩ : ∃ j, m = j + 1 := ⟨m - 1, by omega⟩
    rw [f_X6_gatherLasts_35, up_ne (by decide), h6]
    simp (disch := omega) only [ii_lt, if_neg]
    rw [c_gl45 hT g hn (by omega) (by omega)]
    exact c_gl35 h6 hT g hn hN j (p + 1) m (by omega) (by omega)
theorem c_gl25 {s : ql_St} (h6 : s 6 0 = ii n) (hT : c_tab s n T) (g : pw_g n T) (hn : n ≤ 16) (hN : 1000 ≤ N) :
    ∀ j r m (L : Nat → Int32), r + j = n + 1 → j + 1 ≤ m → f_X6_gatherLasts_25 N m (ql_up s 8 L) (ii r) = some (ql_up s 8 (li T n j L))
  | 0, r, m, L, hp, hm => by
    obtain ⟨m, rfl⟩ : ∃ j, m = j + 1 := ⟨m - 1, by omega⟩
    rw [f_X6_gatherLasts_25, up_ne (by decide), h6]
    simp (disch := omega) only [lk_0, lk_1, lk_2, lk_3, lk_4, lk_5, lk_6, lk_7, lk_8, lk_9, lk_10, lk_11, lk_12, lk_13, lk_14, lk_15, lk_16, lk_17, lk_18, lk_19, lk_20, lk_21, lk_22, lk_23, lk_24, lk_25, lk_26, lk_31, lk_32, lk_68, lk_97, lk_100, lk_122, lk_200, lk_255, lk_299, lk_300, lk_301, lk_310, lk_324, lk_400, lk_800, lk_1000, lk_1600, lk_2000, lk_10000, ii_add, ii_mul, ii_lt, ii_le, ii_eq, ii_nat, ib_t, ni_lt_ii, ni_le_ii, ii_lt_ni, ii_le_ni, ni_eq_ii, ii_eq_ni, ni_eq_ni, if_pos, if_neg, if_true, if_false, eq_self, and_self, not_true_eq_false, not_false_eq_true, bd_s, up_same, up_ne, ud_same, ud_ne]
    rfl
  | j + 1, r, m, L, hp, hm => by
    obtain ⟨m, rfl⟩ : ∃ j, m = j + 1 := ⟨m - 1, by omega⟩
    rw [f_X6_gatherLasts_25, up_ne (by decide), h6]
    simp (disch := omega) only [ii_lt, if_neg]
    have q := c_gl35 (N := N) (L := L) (x1 := ii r) (k25 := f_X6_gatherLasts_25 N m) h6 hT g hn hN (n + 1) 0 N (by omega) (by omega)
    rw [show lr T 0 L = L from rfl] at q
    rw [lk_0, q, lk_1, ii_add]
    exact c_gl25 h6 hT g hn hN j (r + 1) m _ (by omega) (by omega)
def zr (k : Nat) (L : Nat → Int32) : Nat → Int32 := fun q => if q < k then ii 0 else L q
theorem zr_0 (L : Nat → Int32) : zr 0 L = L := by funext q; simp only [zr, Nat.not_lt_zero, if_false]
theorem zr_s (k : Nat) (L : Nat → Int32) : upd (zr k L) k (ii 0) = zr (k + 1) L := by
  funext q
  by_cases e : q = k
  · subst e; rw [ud_same, zr, if_pos (by omega)]
  · rw [ud_ne e, zr, zr]
    by_cases h : q < k
    · rw [if_pos h, if_pos (by omega)]
    · rw [if_neg h, if_neg (by omega)]
theorem zr_in {k q : Nat} {L : Nat → Int32} (h : q < k) : zr k L q = ii 0 := by rw [zr, if_pos h]
theorem c_gl2 {s : ql_St} {L : Nat → Int32} (h6 : s 6 0 = ii n) (hn : n ≤ 16) :
    ∀ j p m, p + j = n + 1 → j + 1 ≤ m → f_X6_gatherLasts_2 N m (ql_up s 8 (zr p L)) (ii p) = f_X6_gatherLasts_25 N N (ql_up s 8 (zr (n + 1) L)) (ii 0)
  | 0, p, m, hp, hm => by
    obtain ⟨m, rfl⟩ : ∃ j, m = j + 1 := ⟨m - 1, by omega⟩
    obtain rfl : p = n + 1 := by omega
    rw [f_X6_gatherLasts_2, up_ne (by decide), h6]
    simp (disch := omega) only [lk_0, lk_1, lk_2, lk_3, lk_4, lk_5, lk_6, lk_7, lk_8, lk_9, lk_10, lk_11, lk_12, lk_13, lk_14, lk_15, lk_16, lk_17, lk_18, lk_19, lk_20, lk_21, lk_22, lk_23, lk_24, lk_25, lk_26, lk_31, lk_32, lk_68, lk_97, lk_100, lk_122, lk_200, lk_255, lk_299, lk_300, lk_301, lk_310, lk_324, lk_400, lk_800, lk_1000, lk_1600, lk_2000, lk_10000, ii_add, ii_mul, ii_lt, ii_le, ii_eq, ii_nat, ib_t, ni_lt_ii, ni_le_ii, ii_lt_ni, ii_le_ni, ni_eq_ii, ii_eq_ni, ni_eq_ni, if_pos, if_neg, if_true, if_false, eq_self, and_self, not_true_eq_false, not_false_eq_true, bd_s, up_same, up_ne, ud_same, ud_ne]
  | j + 1, p, m, hp, hm => by
    obtain ⟨m, rfl⟩ : ∃ j, m = j + 1 := ⟨m - 1, by omega⟩
    rw [f_X6_gatherLasts_2, up_ne (by decide), h6]
    simp (disch := omega) only [lk_0, lk_1, lk_2, lk_3, lk_4, lk_5, lk_6, lk_7, lk_8, lk_9, lk_10, lk_11, lk_12, lk_13, lk_14, lk_15, lk_16, lk_17, lk_18, lk_19, lk_20, lk_21, lk_22, lk_23, lk_24, lk_25, lk_26, lk_31, lk_32, lk_68, lk_97, lk_100, lk_122, lk_200, lk_255, lk_299, lk_300, lk_301, lk_310, lk_324, lk_400, lk_800, lk_1000, lk_1600, lk_2000, lk_10000, ii_add, ii_mul, ii_lt, ii_le, ii_eq, ii_nat, ib_t, ni_lt_ii, ni_le_ii, ii_lt_ni, ii_le_ni, ni_eq_ii, ii_eq_ni, ni_eq_ni, if_pos, if_neg, if_true, if_false, eq_self, and_self, not_true_eq_false, not_false_eq_true, bd_s, up_same, up_ne, ud_same, ud_ne]
    rw [up_up, zr_s]
    exact c_gl2 h6 hn j (p + 1) m (by omega) (by omega)
theorem c_gatherLasts {s : ql_St} (h6 : s 6 0 = ii n) (hT : c_tab s n T) (g : pw_g n T) (hn : n ≤ 16) (hN : 1000 ≤ N) :
    f_X6_gatherLasts N s = some (ql_up s 8 (li T n (n + 1) (zr (n + 1) (s 8)))) := by
  unfold f_X6_gatherLasts f_X6_gatherLasts_0
  have q := c_gl2 (N := N) (L := s 8) h6 hn (n + 1) 0 N (by omega) (by omega)
  rw [zr_0, up_self] at q
  rw [lk_0, q]
  exact c_gl25 h6 hT g hn hN (n + 1) 0 N _ (by omega) (by omega)
/-! the reference -/
theorem m_to {z : ql_Z} {i p a : Nat} (hT : m_tab (z.1 13) i n T) (hi : i < 4) (hn : n ≤ 16) (hp : p ≤ n) (ha : a < 4) : f_X11_to N z (ii i) (ii p) (ii a) = some (em (T p a)) := by
  unfold f_X11_to f_X11_to_0
  simp (disch := omega) only [lk_0, lk_1, lk_2, lk_3, lk_4, lk_5, lk_6, lk_7, lk_8, lk_9, lk_10, lk_11, lk_12, lk_13, lk_14, lk_15, lk_16, lk_17, lk_18, lk_19, lk_20, lk_21, lk_22, lk_23, lk_24, lk_25, lk_26, lk_31, lk_32, lk_68, lk_97, lk_100, lk_122, lk_200, lk_255, lk_299, lk_300, lk_301, lk_310, lk_324, lk_400, lk_800, lk_1000, lk_1600, lk_2000, lk_10000, ii_add, ii_mul, ii_lt, ii_le, ii_eq, ii_nat, ib_t, ni_lt_ii, ni_le_ii, ii_lt_ni, ii_le_ni, ni_eq_ii, ii_eq_ni, ni_eq_ni, if_pos, if_neg, if_true, if_false, eq_self, and_self, not_true_eq_false, not_false_eq_true, bd_s, up_same, up_ne, ud_same, ud_ne]
  rw [hT p a hp ha]
theorem m_lastOf {z : ql_Z} {i p a : Nat} (hT : m_tab (z.1 13) i n T) (g : pw_g n T) (hi : i < 4) (hn : n ≤ 16) (hp : p ≤ n) (ha : a < 4) : f_X11_lastOf N z (ii i) (ii p) (ii a) = some (lb T (z.1 36) p a) := by
  unfold f_X11_lastOf f_X11_lastOf_0
  rw [m_to hT hi hn hp ha, bd_s]
  have hv := g p a
  unfold lb
  cases e : T p a with
  | none => simp only [em]; simp (disch := omega) only [lk_0, lk_1, lk_2, lk_3, lk_4, lk_5, lk_6, lk_7, lk_8, lk_9, lk_10, lk_11, lk_12, lk_13, lk_14, lk_15, lk_16, lk_17, lk_18, lk_19, lk_20, lk_21, lk_22, lk_23, lk_24, lk_25, lk_26, lk_31, lk_32, lk_68, lk_97, lk_100, lk_122, lk_200, lk_255, lk_299, lk_300, lk_301, lk_310, lk_324, lk_400, lk_800, lk_1000, lk_1600, lk_2000, lk_10000, ii_add, ii_mul, ii_lt, ii_le, ii_eq, ii_nat, ib_t, ni_lt_ii, ni_le_ii, ii_lt_ni, ii_le_ni, ni_eq_ii, ii_eq_ni, ni_eq_ni, if_pos, if_neg, if_true, if_false, eq_self, and_self, not_true_eq_false, not_false_eq_true, bd_s, up_same, up_ne, ud_same, ud_ne]
  | some v => cases v with
    | zero => simp only [em]; simp (disch := omega) only [lk_0, lk_1, lk_2, lk_3, lk_4, lk_5, lk_6, lk_7, lk_8, lk_9, lk_10, lk_11, lk_12, lk_13, lk_14, lk_15, lk_16, lk_17, lk_18, lk_19, lk_20, lk_21, lk_22, lk_23, lk_24, lk_25, lk_26, lk_31, lk_32, lk_68, lk_97, lk_100, lk_122, lk_200, lk_255, lk_299, lk_300, lk_301, lk_310, lk_324, lk_400, lk_800, lk_1000, lk_1600, lk_2000, lk_10000, ii_add, ii_mul, ii_lt, ii_le, ii_eq, ii_nat, ib_t, ni_lt_ii, ni_le_ii, ii_lt_ni, ii_le_ni, ni_eq_ii, ii_eq_ni, ni_eq_ni, if_pos, if_neg, if_true, if_false, eq_self, and_self, not_true_eq_false, not_false_eq_true, bd_s, up_same, up_ne, ud_same, ud_ne]
    | succ v =>
      have := hv _ hp ha e
      simp only [em]; simp (disch := omega) only [lk_0, lk_1, lk_2, lk_3, lk_4, lk_5, lk_6, lk_7, lk_8, lk_9, lk_10, lk_11, lk_12, lk_13, lk_14, lk_15, lk_16, lk_17, lk_18, lk_19, lk_20, lk_21, lk_22, lk_23, lk_24, lk_25, lk_26, lk_31, lk_32, lk_68, lk_97, lk_100, lk_122, lk_200, lk_255, lk_299, lk_300, lk_301, lk_310, lk_324, lk_400, lk_800, lk_1000, lk_1600, lk_2000, lk_10000, ii_add, ii_mul, ii_lt, ii_le, ii_eq, ii_nat, ib_t, ni_lt_ii, ni_le_ii, ii_lt_ni, ii_le_ni, ni_eq_ii, ii_eq_ni, ni_eq_ni, if_pos, if_neg, if_true, if_false, eq_self, and_self, not_true_eq_false, not_false_eq_true, bd_s, up_same, up_ne, ud_same, ud_ne]
theorem m_en50s {z : ql_Z} {i p a m : Nat} {L : Nat → Int32} {x2 : Int32} {k23 : ql_Z → Int32 → Int32 → Option ql_Z} {k37 : ql_Z → Int32 → Int32 → Int32 → Option ql_Z} (hT : m_tab (z.1 13) i n T) (g : pw_g n T) (hi : i < 4) (hn : n ≤ 16) (hp : p ≤ n) (ha : a < 4) :
    f_X11_ends_50 N k23 k37 (m + 1) (ql_up z.1 36 L, z.2) (ii i) x2 (ii p) (ii a) = f_X11_ends_50 N k23 k37 m (ql_up z.1 36 (l1 T L p a), z.2) (ii i) x2 (ii p) (ii (a + 1)) := by
  have h := m_lastOf (N := N) (z := (ql_up z.1 36 L, z.2)) (i := i) (p := p) (a := a) (by show m_tab (ql_up z.1 36 L 13) i n T; rw [up_ne (by decide)]; exact hT) g hi hn hp ha
  rw [f_X11_ends_50, h]
  simp (disch := omega) only [lk_0, lk_1, lk_2, lk_3, lk_4, lk_5, lk_6, lk_7, lk_8, lk_9, lk_10, lk_11, lk_12, lk_13, lk_14, lk_15, lk_16, lk_17, lk_18, lk_19, lk_20, lk_21, lk_22, lk_23, lk_24, lk_25, lk_26, lk_31, lk_32, lk_68, lk_97, lk_100, lk_122, lk_200, lk_255, lk_299, lk_300, lk_301, lk_310, lk_324, lk_400, lk_800, lk_1000, lk_1600, lk_2000, lk_10000, ii_add, ii_mul, ii_lt, ii_le, ii_eq, ii_nat, ib_t, ni_lt_ii, ni_le_ii, ii_lt_ni, ii_le_ni, ni_eq_ii, ii_eq_ni, ni_eq_ni, if_pos, if_neg, if_true, if_false, eq_self, and_self, not_true_eq_false, not_false_eq_true, bd_s, up_same, up_ne, ud_same, ud_ne]
  rw [up_up]; rfl
theorem m_en50 {z : ql_Z} {i p m : Nat} {L : Nat → Int32} {x2 : Int32} {k23 : ql_Z → Int32 → Int32 → Option ql_Z} {k37 : ql_Z → Int32 → Int32 → Int32 → Option ql_Z} (hT : m_tab (z.1 13) i n T) (g : pw_g n T) (hi : i < 4) (hn : n ≤ 16) (hp : p ≤ n) (hm : 5 ≤ m) :
    f_X11_ends_50 N k23 k37 m (ql_up z.1 36 L, z.2) (ii i) x2 (ii p) 0 = k37 (ql_up z.1 36 (l4 T L p), z.2) (ii i) x2 (ii (p + 1)) := by
  obtain ⟨m, rfl⟩ : ∃ j, m = j + 5 := ⟨m - 5, by omega⟩
  rw [lk_0, m_en50s hT g hi hn hp (by omega), m_en50s hT g hi hn hp (by omega), m_en50s hT g hi hn hp (by omega), m_en50s hT g hi hn hp (by omega), f_X11_ends_50]
  simp (disch := omega) only [lk_0, lk_1, lk_2, lk_3, lk_4, lk_5, lk_6, lk_7, lk_8, lk_9, lk_10, lk_11, lk_12, lk_13, lk_14, lk_15, lk_16, lk_17, lk_18, lk_19, lk_20, lk_21, lk_22, lk_23, lk_24, lk_25, lk_26, lk_31, lk_32, lk_68, lk_97, lk_100, lk_122, lk_200, lk_255, lk_299, lk_300, lk_301, lk_310, lk_324, lk_400, lk_800, lk_1000, lk_1600, lk_2000, lk_10000, ii_add, ii_mul, ii_lt, ii_le, ii_eq, ii_nat, ib_t, ni_lt_ii, ni_le_ii, ii_lt_ni, ii_le_ni, ni_eq_ii, ii_eq_ni, ni_eq_ni, if_pos, if_neg, if_true, if_false, eq_self, and_self, not_true_eq_false, not_false_eq_true, bd_s, up_same, up_ne, ud_same, ud_ne]
  rfl
theorem m_en37 {z : ql_Z} {i : Nat} {L : Nat → Int32} {x2 : Int32} {k23 : ql_Z → Int32 → Int32 → Option ql_Z} (h9 : z.1 9 i = ii n) (hT : m_tab (z.1 13) i n T) (g : pw_g n T) (hi : i < 4) (hn : n ≤ 16) (hN : 1000 ≤ N) :
    ∀ j p m, p + j = n + 1 → j + 1 ≤ m → f_X11_ends_37 N k23 m (ql_up z.1 36 (lr T p L), z.2) (ii i) x2 (ii p) = k23 (ql_up z.1 36 (lr T (n + 1) L), z.2) (ii i) (x2 + 1)
  | 0, p, m, hp, hm => by
    obtain ⟨m, rfl⟩ : ∃ j, m = j + 1 := ⟨m - 1, by omega⟩
    obtain rfl : p = n + 1 := by omega
    rw [f_X11_ends_37]
    simp (disch := omega) only [lk_0, lk_1, lk_2, lk_3, lk_4, lk_5, lk_6, lk_7, lk_8, lk_9, lk_10, lk_11, lk_12, lk_13, lk_14, lk_15, lk_16, lk_17, lk_18, lk_19, lk_20, lk_21, lk_22, lk_23, lk_24, lk_25, lk_26, lk_31, lk_32, lk_68, lk_97, lk_100, lk_122, lk_200, lk_255, lk_299, lk_300, lk_301, lk_310, lk_324, lk_400, lk_800, lk_1000, lk_1600, lk_2000, lk_10000, ii_add, ii_mul, ii_lt, ii_le, ii_eq, ii_nat, ib_t, ni_lt_ii, ni_le_ii, ii_lt_ni, ii_le_ni, ni_eq_ii, ii_eq_ni, ni_eq_ni, if_pos, if_neg, if_true, if_false, eq_self, and_self, not_true_eq_false, not_false_eq_true, bd_s, up_same, up_ne, ud_same, ud_ne]
    rw [h9]
    simp (disch := omega) only [lk_0, lk_1, lk_2, lk_3, lk_4, lk_5, lk_6, lk_7, lk_8, lk_9, lk_10, lk_11, lk_12, lk_13, lk_14, lk_15, lk_16, lk_17, lk_18, lk_19, lk_20, lk_21, lk_22, lk_23, lk_24, lk_25, lk_26, lk_31, lk_32, lk_68, lk_97, lk_100, lk_122, lk_200, lk_255, lk_299, lk_300, lk_301, lk_310, lk_324, lk_400, lk_800, lk_1000, lk_1600, lk_2000, lk_10000, ii_add, ii_mul, ii_lt, ii_le, ii_eq, ii_nat, ib_t, ni_lt_ii, ni_le_ii, ii_lt_ni, ii_le_ni, ni_eq_ii, ii_eq_ni, ni_eq_ni, if_pos, if_neg, if_true, if_false, eq_self, and_self, not_true_eq_false, not_false_eq_true, bd_s, up_same, up_ne, ud_same, ud_ne]
  | j + 1, p, m, hp, hm => by
    obtain ⟨m, rfl⟩ : ∃ j, m = j + 1 := ⟨m - 1, by omega⟩
    rw [f_X11_ends_37]
    simp (disch := omega) only [lk_0, lk_1, lk_2, lk_3, lk_4, lk_5, lk_6, lk_7, lk_8, lk_9, lk_10, lk_11, lk_12, lk_13, lk_14, lk_15, lk_16, lk_17, lk_18, lk_19, lk_20, lk_21, lk_22, lk_23, lk_24, lk_25, lk_26, lk_31, lk_32, lk_68, lk_97, lk_100, lk_122, lk_200, lk_255, lk_299, lk_300, lk_301, lk_310, lk_324, lk_400, lk_800, lk_1000, lk_1600, lk_2000, lk_10000, ii_add, ii_mul, ii_lt, ii_le, ii_eq, ii_nat, ib_t, ni_lt_ii, ni_le_ii, ii_lt_ni, ii_le_ni, ni_eq_ii, ii_eq_ni, ni_eq_ni, if_pos, if_neg, if_true, if_false, eq_self, and_self, not_true_eq_false, not_false_eq_true, bd_s, up_same, up_ne, ud_same, ud_ne]
    rw [h9]
    simp (disch := omega) only [ii_lt, if_neg]
    rw [← lk_0, m_en50 hT g hi hn (by omega) (by omega)]
    exact m_en37 h9 hT g hi hn hN j (p + 1) m (by omega) (by omega)
theorem m_en23 {z : ql_Z} {i : Nat} (h9 : z.1 9 i = ii n) (hT : m_tab (z.1 13) i n T) (g : pw_g n T) (hi : i < 4) (hn : n ≤ 16) (hN : 1000 ≤ N) :
    ∀ j r m (L : Nat → Int32), r + j = n + 2 → j + 1 ≤ m → f_X11_ends_23 N m (ql_up z.1 36 L, z.2) (ii i) (ii r) = some (ql_up z.1 36 (li T n j L), z.2)
  | 0, r, m, L, hp, hm => by
    obtain ⟨m, rfl⟩ : ∃ j, m = j + 1 := ⟨m - 1, by omega⟩
    rw [f_X11_ends_23]
    simp (disch := omega) only [lk_0, lk_1, lk_2, lk_3, lk_4, lk_5, lk_6, lk_7, lk_8, lk_9, lk_10, lk_11, lk_12, lk_13, lk_14, lk_15, lk_16, lk_17, lk_18, lk_19, lk_20, lk_21, lk_22, lk_23, lk_24, lk_25, lk_26, lk_31, lk_32, lk_68, lk_97, lk_100, lk_122, lk_200, lk_255, lk_299, lk_300, lk_301, lk_310, lk_324, lk_400, lk_800, lk_1000, lk_1600, lk_2000, lk_10000, ii_add, ii_mul, ii_lt, ii_le, ii_eq, ii_nat, ib_t, ni_lt_ii, ni_le_ii, ii_lt_ni, ii_le_ni, ni_eq_ii, ii_eq_ni, ni_eq_ni, if_pos, if_neg, if_true, if_false, eq_self, and_self, not_true_eq_false, not_false_eq_true, bd_s, up_same, up_ne, ud_same, ud_ne]
    rw [h9]
    simp (disch := omega) only [lk_0, lk_1, lk_2, lk_3, lk_4, lk_5, lk_6, lk_7, lk_8, lk_9, lk_10, lk_11, lk_12, lk_13, lk_14, lk_15, lk_16, lk_17, lk_18, lk_19, lk_20, lk_21, lk_22, lk_23, lk_24, lk_25, lk_26, lk_31, lk_32, lk_68, lk_97, lk_100, lk_122, lk_200, lk_255, lk_299, lk_300, lk_301, lk_310, lk_324, lk_400, lk_800, lk_1000, lk_1600, lk_2000, lk_10000, ii_add, ii_mul, ii_lt, ii_le, ii_eq, ii_nat, ib_t, ni_lt_ii, ni_le_ii, ii_lt_ni, ii_le_ni, ni_eq_ii, ii_eq_ni, ni_eq_ni, if_pos, if_neg, if_true, if_false, eq_self, and_self, not_true_eq_false, not_false_eq_true, bd_s, up_same, up_ne, ud_same, ud_ne]
    rfl
  | j + 1, r, m, L, hp, hm => by
    obtain ⟨m, rfl⟩ : ∃ j, m = j + 1 := ⟨m - 1, by omega⟩
    rw [f_X11_ends_23]
    simp (disch := omega) only [lk_0, lk_1, lk_2, lk_3, lk_4, lk_5, lk_6, lk_7, lk_8, lk_9, lk_10, lk_11, lk_12, lk_13, lk_14, lk_15, lk_16, lk_17, lk_18, lk_19, lk_20, lk_21, lk_22, lk_23, lk_24, lk_25, lk_26, lk_31, lk_32, lk_68, lk_97, lk_100, lk_122, lk_200, lk_255, lk_299, lk_300, lk_301, lk_310, lk_324, lk_400, lk_800, lk_1000, lk_1600, lk_2000, lk_10000, ii_add, ii_mul, ii_lt, ii_le, ii_eq, ii_nat, ib_t, ni_lt_ii, ni_le_ii, ii_lt_ni, ii_le_ni, ni_eq_ii, ii_eq_ni, ni_eq_ni, if_pos, if_neg, if_true, if_false, eq_self, and_self, not_true_eq_false, not_false_eq_true, bd_s, up_same, up_ne, ud_same, ud_ne]
    rw [h9]
    simp (disch := omega) only [ii_add, ii_lt, if_neg]
    have q := m_en37 (N := N) (L := L) (x2 := ii r) (k23 := f_X11_ends_23 N m) h9 hT g hi hn hN (n + 1) 0 N (by omega) (by omega)
    rw [show lr T 0 L = L from rfl] at q
    rw [q, lk_1, ii_add]
    exact m_en23 h9 hT g hi hn hN j (r + 1) m _ (by omega) (by omega)
theorem m_en2 {z : ql_Z} {i : Nat} {L : Nat → Int32} :
    ∀ j p m, p + j = 17 → j + 1 ≤ m → f_X11_ends_2 N m (ql_up z.1 36 (zr p L), z.2) (ii i) (ii p) = f_X11_ends_23 N N (ql_up z.1 36 (zr 17 L), z.2) (ii i) (ii 0)
  | 0, p, m, hp, hm => by
    obtain ⟨m, rfl⟩ : ∃ j, m = j + 1 := ⟨m - 1, by omega⟩
    obtain rfl : p = 17 := by omega
    rw [f_X11_ends_2]
    simp (disch := omega) only [lk_0, lk_1, lk_2, lk_3, lk_4, lk_5, lk_6, lk_7, lk_8, lk_9, lk_10, lk_11, lk_12, lk_13, lk_14, lk_15, lk_16, lk_17, lk_18, lk_19, lk_20, lk_21, lk_22, lk_23, lk_24, lk_25, lk_26, lk_31, lk_32, lk_68, lk_97, lk_100, lk_122, lk_200, lk_255, lk_299, lk_300, lk_301, lk_310, lk_324, lk_400, lk_800, lk_1000, lk_1600, lk_2000, lk_10000, ii_add, ii_mul, ii_lt, ii_le, ii_eq, ii_nat, ib_t, ni_lt_ii, ni_le_ii, ii_lt_ni, ii_le_ni, ni_eq_ii, ii_eq_ni, ni_eq_ni, if_pos, if_neg, if_true, if_false, eq_self, and_self, not_true_eq_false, not_false_eq_true, bd_s, up_same, up_ne, ud_same, ud_ne]
  | j + 1, p, m, hp, hm => by
    obtain ⟨m, rfl⟩ : ∃ j, m = j + 1 := ⟨m - 1, by omega⟩
    rw [f_X11_ends_2]
    simp (disch := omega) only [lk_0, lk_1, lk_2, lk_3, lk_4, lk_5, lk_6, lk_7, lk_8, lk_9, lk_10, lk_11, lk_12, lk_13, lk_14, lk_15, lk_16, lk_17, lk_18, lk_19, lk_20, lk_21, lk_22, lk_23, lk_24, lk_25, lk_26, lk_31, lk_32, lk_68, lk_97, lk_100, lk_122, lk_200, lk_255, lk_299, lk_300, lk_301, lk_310, lk_324, lk_400, lk_800, lk_1000, lk_1600, lk_2000, lk_10000, ii_add, ii_mul, ii_lt, ii_le, ii_eq, ii_nat, ib_t, ni_lt_ii, ni_le_ii, ii_lt_ni, ii_le_ni, ni_eq_ii, ii_eq_ni, ni_eq_ni, if_pos, if_neg, if_true, if_false, eq_self, and_self, not_true_eq_false, not_false_eq_true, bd_s, up_same, up_ne, ud_same, ud_ne]
    rw [up_up, zr_s]
    exact m_en2 j (p + 1) m (by omega) (by omega)
theorem m_ends {z : ql_Z} {i : Nat} (h9 : z.1 9 i = ii n) (hT : m_tab (z.1 13) i n T) (g : pw_g n T) (hi : i < 4) (hn : n ≤ 16) (hN : 1000 ≤ N) :
    f_X11_ends N z (ii i) = some (ql_up z.1 36 (li T n (n + 2) (zr 17 (z.1 36))), z.2) := by
  unfold f_X11_ends f_X11_ends_0
  have q := m_en2 (N := N) (z := z) (i := i) (L := z.1 36) 17 0 N (by omega) (by omega)
  rw [zr_0, up_self] at q
  rw [lk_0, q]
  exact m_en23 h9 hT g hi hn hN (n + 2) 0 N _ (by omega) (by omega)
end
