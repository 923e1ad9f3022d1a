/-! the places come to: the class's gatherReached -/
section
variable {N n : Nat} {T : pw_T}
theorem c_holds {x : Int32} {a : Nat} (ha : a < 32) : f_X10_holds N x (ii a) = some (if bt x a = true then ii 1 else ii 0) := by
  unfold f_X10_holds f_X10_holds_0
  rw [lk_1, lk_31, lk_0]
  by_cases h : bt x a = true
  · rw [if_pos ((bt_shr ha).mpr h), if_pos h]
  · rw [if_neg (fun q => h ((bt_shr ha).mp q)), if_neg h]
theorem c_rf2s {s : ql_St} {p a m : Nat} {R : Int32} (hT : c_tab s n T) (g : pw_g n T) (hn : n ≤ 16) (hp : p ≤ n) (ha : a < 4) :
    f_X6_reachFrom_2 N (m + 1) (ql_up s 9 (fun _ => R)) (ii p) (ii a) = f_X6_reachFrom_2 N m (ql_up s 9 (fun _ => r1 T p R a)) (ii p) (ii (a + 1)) := by
  have h := c_goes (N := N) (s := ql_up s 9 (fun _ => R)) (T := T) (p := p) (a := a) hT hn hp ha
  have hv := g p a
  rw [f_X6_reachFrom_2, h]
  unfold r1 f_X6_reachFrom_34
  cases e : T p a with
  | none => simp only [ec]; rw [bd_s, c_isp9]; simp (disch := omega) only [lk_0, lk_1, lk_2, lk_3, lk_4, lk_5, lk_6, lk_7, lk_8, lk_9, lk_10, lk_11, lk_12, lk_13, lk_14, lk_15, lk_16, lk_17, lk_18, lk_19, lk_20, lk_21, lk_22, lk_23, lk_24, lk_25, lk_26, lk_31, lk_32, lk_68, lk_97, lk_100, lk_122, lk_200, lk_255, lk_299, lk_300, lk_301, lk_310, lk_324, lk_400, lk_800, lk_1000, lk_1600, lk_2000, lk_10000, ii_add, ii_mul, ii_lt, ii_le, ii_eq, ii_nat, ib_t, ni_lt_ii, ni_le_ii, ii_lt_ni, ii_le_ni, ni_eq_ii, ii_eq_ni, ni_eq_ni, if_pos, if_neg, if_true, if_false, eq_self, and_self, not_true_eq_false, not_false_eq_true, bd_s, up_same, up_ne, ud_same, ud_ne]
  | some v => cases v with
    | zero => simp only [ec]; rw [bd_s, c_isp0]; simp (disch := omega) only [lk_0, lk_1, lk_2, lk_3, lk_4, lk_5, lk_6, lk_7, lk_8, lk_9, lk_10, lk_11, lk_12, lk_13, lk_14, lk_15, lk_16, lk_17, lk_18, lk_19, lk_20, lk_21, lk_22, lk_23, lk_24, lk_25, lk_26, lk_31, lk_32, lk_68, lk_97, lk_100, lk_122, lk_200, lk_255, lk_299, lk_300, lk_301, lk_310, lk_324, lk_400, lk_800, lk_1000, lk_1600, lk_2000, lk_10000, ii_add, ii_mul, ii_lt, ii_le, ii_eq, ii_nat, ib_t, ni_lt_ii, ni_le_ii, ii_lt_ni, ii_le_ni, ni_eq_ii, ii_eq_ni, ni_eq_ni, if_pos, if_neg, if_true, if_false, eq_self, and_self, not_true_eq_false, not_false_eq_true, bd_s, up_same, up_ne, ud_same, ud_ne]
    | succ v =>
      have := hv _ hp ha e
      simp only [ec]; rw [bd_s, c_isp (s := ql_up s 9 (fun _ => R)) hT.2 hn (by omega) this]; simp (disch := omega) only [lk_0, lk_1, lk_2, lk_3, lk_4, lk_5, lk_6, lk_7, lk_8, lk_9, lk_10, lk_11, lk_12, lk_13, lk_14, lk_15, lk_16, lk_17, lk_18, lk_19, lk_20, lk_21, lk_22, lk_23, lk_24, lk_25, lk_26, lk_31, lk_32, lk_68, lk_97, lk_100, lk_122, lk_200, lk_255, lk_299, lk_300, lk_301, lk_310, lk_324, lk_400, lk_800, lk_1000, lk_1600, lk_2000, lk_10000, ii_add, ii_mul, ii_lt, ii_le, ii_eq, ii_nat, ib_t, ni_lt_ii, ni_le_ii, ii_lt_ni, ii_le_ni, ni_eq_ii, ii_eq_ni, ni_eq_ni, if_pos, if_neg, if_true, if_false, eq_self, and_self, not_true_eq_false, not_false_eq_true, bd_s, up_same, up_ne, ud_same, ud_ne]
      rw [up_up]
theorem c_reachFrom {s : ql_St} {p : Nat} {R : Int32} (hT : c_tab s n T) (g : pw_g n T) (hn : n ≤ 16) (hp : p ≤ n) (hN : 1000 ≤ N) :
    f_X6_reachFrom N (ql_up s 9 (fun _ => R)) (ii p) = some (ql_up s 9 (fun _ => r4 T p R)) := by
  unfold f_X6_reachFrom f_X6_reachFrom_0
  obtain ⟨m, hm⟩ : ∃ j, N = j + 5 := ⟨N - 5, by omega⟩
  rw [lk_0]
  have e : ∀ w x y, f_X6_reachFrom_2 N N w x y = f_X6_reachFrom_2 N (m + 5) w x y := fun w x y => by rw [← hm]
  rw [e, c_rf2s hT g hn hp (by omega), c_rf2s hT g hn hp (by omega), c_rf2s hT g hn hp (by omega), c_rf2s hT g hn hp (by omega), f_X6_reachFrom_2]
  simp (disch := omega) only [lk_0, lk_1, lk_2, lk_3, lk_4, lk_5, lk_6, lk_7, lk_8, lk_9, lk_10, lk_11, lk_12, lk_13, lk_14, lk_15, lk_16, lk_17, lk_18, lk_19, lk_20, lk_21, lk_22, lk_23, lk_24, lk_25, lk_26, lk_31, lk_32, lk_68, lk_97, lk_100, lk_122, lk_200, lk_255, lk_299, lk_300, lk_301, lk_310, lk_324, lk_400, lk_800, lk_1000, lk_1600, lk_2000, lk_10000, ii_add, ii_mul, ii_lt, ii_le, ii_eq, ii_nat, ib_t, ni_lt_ii, ni_le_ii, ii_lt_ni, ii_le_ni, ni_eq_ii, ii_eq_ni, ni_eq_ni, if_pos, if_neg, if_true, if_false, eq_self, and_self, not_true_eq_false, not_false_eq_true, bd_s, up_same, up_ne, ud_same, ud_ne]
  rfl
theorem c_gr17 {s : ql_St} {R x1 : Int32} {k7 : ql_St → Int32 → Option ql_St} (h6 : s 6 0 = ii n) (hT : c_tab s n T) (g : pw_g n T) (hn : n ≤ 16) (hN : 1000 ≤ N) :
    ∀ j p m, p + j = n + 1 → j + 1 ≤ m → f_X6_gatherReached_17 N k7 m (ql_up s 9 (fun _ => rr T p R)) x1 (ii p) = k7 (ql_up s 9 (fun _ => rr T (n + 1) R)) (x1 + 1)
  | 0, p, m, hp, hm => by
    obtain ⟨m, rfl⟩ : ∃ j, m = j + 1 := ⟨m - 1, by omega⟩
    obtain rfl : p = n + 1 := by omega
    rw [f_X6_gatherReached_17, up_ne (by decide), h6]
    simp (disch := omega) only [lk_0, lk_1, lk_2, lk_3, lk_4, lk_5, lk_6, lk_7, lk_8, lk_9, lk_10, lk_11, lk_12, lk_13, lk_14, lk_15, lk_16, lk_17, lk_18, lk_19, lk_20, lk_21, lk_22, lk_23, lk_24, lk_25, lk_26, lk_31, lk_32, lk_68, lk_97, lk_100, lk_122, lk_200, lk_255, lk_299, lk_300, lk_301, lk_310, lk_324, lk_400, lk_800, lk_1000, lk_1600, lk_2000, lk_10000, ii_add, ii_mul, ii_lt, ii_le, ii_eq, ii_nat, ib_t, ni_lt_ii, ni_le_ii, ii_lt_ni, ii_le_ni, ni_eq_ii, ii_eq_ni, ni_eq_ni, if_pos, if_neg, if_true, if_false, eq_self, and_self, not_true_eq_false, not_false_eq_true, bd_s, up_same, up_ne, ud_same, ud_ne]
  | j + 1, p, m, hp, hm => by
    obtain ⟨m, rfl⟩ : ∃ j, m = j + 1 := ⟨m - 1, by omega⟩
    rw [f_X6_gatherReached_17, up_ne (by decide), h6, up_same, c_holds (by omega)]
    have ih := c_gr17 (R := R) (x1 := x1) (k7 := k7) h6 hT g hn hN j (p + 1) m (by omega) (by omega)
    rw [lk_1] at ih
    by_cases hb : bt (rr T p R) p = true
    · rw [if_pos hb]
      simp (disch := omega) only [ii_lt, if_neg, bd_s, lk_0, ii_eq]
      rw [c_reachFrom hT g hn (by omega) hN, bd_s]
      unfold f_X6_gatherReached_41
      rw [lk_1, ii_add, ← ih]
      show _ = f_X6_gatherReached_17 N k7 m (ql_up s 9 (fun _ => rp T p (rr T p R))) x1 (ii (p + 1))
      rw [rp, if_pos hb]
    · rw [if_neg hb]
      simp (disch := omega) only [ii_lt, if_neg, if_pos, if_true, bd_s, lk_0, ii_eq]
      unfold f_X6_gatherReached_41
      rw [lk_1, ii_add, ← ih]
      show _ = f_X6_gatherReached_17 N k7 m (ql_up s 9 (fun _ => rp T p (rr T p R))) x1 (ii (p + 1))
      rw [rp, if_neg hb]
theorem c_gr7 {s : ql_St} (h6 : s 6 0 = ii n) (hT : c_tab s n T) (g : pw_g n T) (hn : n ≤ 16) (hN : 1000 ≤ N) :
    ∀ j r m (R : Int32), r + j = n → j + 1 ≤ m → f_X6_gatherReached_7 N m (ql_up s 9 (fun _ => R)) (ii r) = some (ql_up s 9 (fun _ => ri T n j R))
  | 0, r, m, R, hp, hm => by
    obtain ⟨m, rfl⟩ : ∃ j, m = j + 1 := ⟨m - 1, by omega⟩
    rw [f_X6_gatherReached_7, up_ne (by decide), h6]
    simp (disch := omega) only [lk_0, lk_1, lk_2, lk_3, lk_4, lk_5, lk_6, lk_7, lk_8, lk_9, lk_10, lk_11, lk_12, lk_13, lk_14, lk_15, lk_16, lk_17, lk_18, lk_19, lk_20, lk_21, lk_22, lk_23, lk_24, lk_25, lk_26, lk_31, lk_32, lk_68, lk_97, lk_100, lk_122, lk_200, lk_255, lk_299, lk_300, lk_301, lk_310, lk_324, lk_400, lk_800, lk_1000, lk_1600, lk_2000, lk_10000, ii_add, ii_mul, ii_lt, ii_le, ii_eq, ii_nat, ib_t, ni_lt_ii, ni_le_ii, ii_lt_ni, ii_le_ni, ni_eq_ii, ii_eq_ni, ni_eq_ni, if_pos, if_neg, if_true, if_false, eq_self, and_self, not_true_eq_false, not_false_eq_true, bd_s, up_same, up_ne, ud_same, ud_ne]
    rfl
  | j + 1, r, m, R, hp, hm => by
    obtain ⟨m, rfl⟩ : ∃ j, m = j + 1 := ⟨m - 1, by omega⟩
    rw [f_X6_gatherReached_7, up_ne (by decide), h6]
    simp (disch := omega) only [ii_le, if_neg]
    have q := c_gr17 (N := N) (R := R) (x1 := ii r) (k7 := f_X6_gatherReached_7 N m) h6 hT g hn hN (n + 1) 0 N (by omega) (by omega)
    rw [show rr T 0 R = R from rfl] at q
    rw [lk_0, q, lk_1, ii_add]
    exact c_gr7 h6 hT g hn hN j (r + 1) m _ (by omega) (by omega)
theorem c_gatherReached {s : ql_St} (h6 : s 6 0 = ii n) (hT : c_tab s n T) (g : pw_g n T) (hn : n ≤ 16) (hN : 1000 ≤ N) :
    f_X6_gatherReached N s = some (ql_up s 9 (fun _ => ri T n n (ii 1))) := by
  unfold f_X6_gatherReached f_X6_gatherReached_0
  rw [lk_1, lk_0]
  exact c_gr7 h6 hT g hn hN n 0 N _ (by omega) (by omega)
end
