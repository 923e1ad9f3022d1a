/-! the class's search: its loop and its end -/
theorem en_1 {o : Option Nat} : en o = 1 ↔ o = some 0 := by
  cases o with
  | none => simp [en]
  | some v => simp [en]
theorem tc_iff {n1 n2 : Nat} {T1 T2 : pw_T} {w : Bool} {y a : Nat} (g2 : pw_g n2 T2) (h2 : n2 ≤ 16) (ha : a < 4) :
    tc n1 n2 T1 T2 w y a ↔ (tx n1 T1 (y / 18) a = some 0 ∧ tx n2 T2 (y % 18) a ≠ some 0) ∨ (w = true ∧ tx n2 T2 (y % 18) a = some 0 ∧ tx n1 T1 (y / 18) a ≠ some 0) := by
  have e2 := en_t (p := y % 18) g2 h2 ha
  unfold tc tg
  simp only [ne_eq, ← en_1]
  constructor
  · rintro ⟨t, h, ht⟩
    obtain ⟨q1, q2⟩ := cd_of e2 h
    unfold te at ht
    rw [q1, q2] at ht
    simp only [ne_eq] at ht
    exact ht
  · intro h
    cases e : cd (18 * en (tx n1 T1 (y / 18) a) + en (tx n2 T2 (y % 18) a)) with
    | none =>
      obtain ⟨q1, q2⟩ := cd_lt e2 e
      rw [q1, q2] at h
      omega
    | some t =>
      obtain ⟨q1, q2⟩ := cd_of e2 e
      refine ⟨t, rfl, ?_⟩
      unfold te
      rw [q1, q2]
      simp only [ne_eq]
      exact h
def wf (w : Bool) : Int32 := if w = true then ii 1 else ii 0
theorem ec_0 {n : Nat} {o : Option Nat} (hn : n < 1000) (h : ∀ v, o = some v → v ≤ n) : ec o = ii 0 ↔ o = some 0 := by
  cases o with
  | none =>
    show -ii 9 = ii 0 ↔ _
    rw [ni_eq_ii (by omega) (by omega)]; simp
  | some v =>
    have := h v rfl
    show ii v = ii 0 ↔ _
    rw [ii_eq (by omega) (by omega)]; simp
theorem ct_f : ∀ m, ct (fun _ => False) m = 0
  | 0 => rfl
  | m + 1 => by rw [ct_n (fun h => h), ct_f m]
section
variable {N : Nat} {P : Nat → ql_St} {n1 n2 i1 i2 : Nat} {T1 T2 : pw_T} {A1 A2 : Nat → Nat} {w : Bool}
theorem c_fr65s {z : ql_Z} {q lv nm : Nat → Nat} {c k a m : Nat} {k43 : ql_Z → Nat → Nat → Int32 → Int32 → Option (Int32 × ql_Z)} (p1 : cp (P i1) n1 T1 A1) (p2 : cp (P i2) n2 T2 A2) (h : ci (st_c n1 n2 T1 T2 A1 A2) z q lv nm c k 0) (hk : k < c) (ha : a < 4) :
    (tc n1 n2 T1 T2 w (q k) a → f_X4_findRow_65 N P k43 (m + 1) z i1 i2 (wf w) (ii k) (ii a) = some (ii 1, (ql_up z.1 6 (fun _ => ii (lv k)), ql_uq z.2 7 (fun _ => ll (4 * nm k + a))))) ∧
    (¬ tc n1 n2 T1 T2 w (q k) a → f_X4_findRow_65 N P k43 (m + 1) z i1 i2 (wf w) (ii k) (ii a) = f_X4_findRow_65 N P k43 m z i1 i2 (wf w) (ii k) (ii (a + 1))) := by
  have hc324 := bi_c h.2.2.2
  have hqk := (h.2.2.2.1 k hk).2
  obtain ⟨e1, e2, e3, e4⟩ := h.2.1 k hk
  have s1 := ec_0 (n := n1) (o := tx n1 T1 (q k / 18) a) (by have := p1.1.1; omega) (fun v hv => tx_le p1.1.2.1 ha hv)
  have s2 := ec_0 (n := n2) (o := tx n2 T2 (q k % 18) a) (by have := p2.1.1; omega) (fun v hv => tx_le p2.1.2.1 ha hv)
  have key : f_X4_findRow_65 N P k43 (m + 1) z i1 i2 (wf w) (ii k) (ii a) = if (tx n1 T1 (q k / 18) a = some 0 ∧ tx n2 T2 (q k % 18) a ≠ some 0) ∨ (w = true ∧ tx n2 T2 (q k % 18) a = some 0 ∧ tx n1 T1 (q k / 18) a ≠ some 0) then some (ii 1, (ql_up z.1 6 (fun _ => ii (lv k)), ql_uq z.2 7 (fun _ => ll (4 * nm k + a)))) else f_X4_findRow_65 N P k43 m z i1 i2 (wf w) (ii k) (ii (a + 1)) := by
    rw [f_X4_findRow_65]
    unfold f_X4_findRow_92 f_X4_findRow_115 f_X4_findRow_133 f_X4_findRow_161
    simp (disch := omega) only [lk_0, lk_1, lk_2, lk_3, lk_4, lk_5, lk_6, lk_7, lk_8, lk_9, lk_10, lk_11, lk_12, lk_13, lk_14, lk_15, lk_16, lk_17, lk_18, lk_19, lk_20, lk_21, lk_22, lk_23, lk_24, lk_25, lk_26, lk_31, lk_32, lk_68, lk_97, lk_100, lk_122, lk_200, lk_255, lk_299, lk_300, lk_301, lk_310, lk_324, lk_400, lk_800, lk_1000, lk_1600, lk_2000, lk_10000, ii_le, if_neg, ib_t, ii_nat, e1, e2, e3, e4]
    rw [c_goesx p1.2.1 p1.1.1 (by omega) ha, bd_s, c_goesx p2.2.1 p2.1.1 (by omega) ha, ii_ll (by omega), ll_add, ii_add]
    simp only [bd_s, s1, s2]
    have n10 : ¬ ii 1 = ii 0 := by rw [ii_eq (by omega) (by omega)]; omega
    have n01 : ¬ ii 0 = ii 1 := by rw [ii_eq (by omega) (by omega)]; omega
    by_cases q1 : tx n1 T1 (q k / 18) a = some 0
    · by_cases q2 : tx n2 T2 (q k % 18) a = some 0
      · simp only [q1, q2, if_true, ne_eq, not_true, and_false, or_self, if_false]
      · simp only [q1, q2, if_true, if_false, n10, ne_eq, not_false_eq_true, and_self, true_or]
        by_cases q3 : wf w = ii 0
        · rw [if_pos q3]
        · rw [if_neg q3]
    · by_cases q2 : tx n2 T2 (q k % 18) a = some 0
      · simp only [q1, q2, if_true, if_false, n01, ne_eq, not_false_eq_true, and_self, false_and, false_or, and_true]
        cases w with
        | true => rw [if_neg (show ¬ wf true = ii 0 from n10), if_pos rfl]
        | false => rw [if_pos (show wf false = ii 0 from rfl), if_neg (by decide)]
      · simp only [q1, q2, if_false, if_true, false_and, and_false, or_self]
  have iff' := tc_iff (n1 := n1) (T1 := T1) (w := w) (y := q k) p2.1.2.1 p2.1.1 ha
  constructor
  · intro ht; rw [key, if_pos (iff'.mp ht)]
  · intro ht; rw [key, if_neg (fun x => ht (iff'.mpr x))]
def c_res (T1 T2 : pw_T) (A1 A2 : Nat → Nat) (w : Bool) (r : Int32) (z' : ql_Z) : Prop :=
  (r = ii 0 ∧ sp_no T1 T2 A1 A2 w) ∨ (r = ii 1 ∧ ∃ n x, sp_at T1 T2 A1 A2 w n x ∧ z'.1 6 0 = ii n ∧ z'.2 7 0 = ll x)
/-- a row that tells: its place and its last atom on the class's side -/
theorem tc_of (p1 : pw_ok n1 T1 A1) (p2 : pw_ok n2 T2 A2) {n x y : Nat} (h : ta 4 (ini_m T1 T2) (st_m T1 T2 A1 A2) n x = some y) (ht : te w y) : ∃ p, ta 1 ini_c (st_c n1 n2 T1 T2 A1 A2) n (x / 4) = some p ∧ tc n1 n2 T1 T2 w p (x % 4) := by
  have e := ta_cm (A1 := A1) (A2 := A2) p1.2.1 p2.2.1 p1.1 p2.1 n (x / 4) (x % 4) (by omega)
  rw [show 4 * (x / 4) + x % 4 = x by omega, h] at e
  cases q : ta 1 ini_c (st_c n1 n2 T1 T2 A1 A2) n (x / 4) with
  | none => rw [q] at e; cases e
  | some p => rw [q] at e; exact ⟨p, rfl, y, e.symm, ht⟩
theorem c_found {z : ql_Z} {q lv nm : Nat → Nat} {c k a : Nat} (p1 : pw_ok n1 T1 A1) (p2 : pw_ok n2 T2 A2) (h : ci (st_c n1 n2 T1 T2 A1 A2) z q lv nm c k 0) (hk : k < c) (ha : a < 4) (hq : ∀ j, j < k → ∀ a, a < 4 → ¬ tc n1 n2 T1 T2 w (q j) a) (ht : tc n1 n2 T1 T2 w (q k) a) (hl : ∀ a', a' < a → ¬ tc n1 n2 T1 T2 w (q k) a') : sp_at T1 T2 A1 A2 w (lv k) (4 * nm k + a) := by
  have b := h.2.2.2
  obtain ⟨t, e1, e2⟩ := ht
  refine ⟨⟨t, ?_, e2⟩, ?_⟩
  · rw [ta_cm p1.2.1 p2.2.1 p1.1 p2.1 _ _ _ ha, (b.1 k hk).1]; exact e1
  · intro n' x' y' h1 h2
    obtain ⟨p, t1, t2⟩ := tc_of p1 p2 h1 h2
    by_cases o : o2 n' (x' / 4) (lv k) (nm k)
    · obtain ⟨j, hj, e, _⟩ := bi_ahead b hk n' (x' / 4) p t1 o
      subst e
      exact absurd t2 (hq j hj _ (by omega))
    · by_cases e : n' = lv k ∧ x' / 4 = nm k
      · have : p = q k := by
          have := (b.1 k hk).1
          rw [← e.1, ← e.2, t1] at this
          exact Option.some.inj this
        subst this
        have : ¬ x' % 4 < a := fun q1 => hl _ q1 t2
        unfold o3; omega
      · unfold o2 at o; unfold o3; omega
theorem c_fr43 (hN : 1000 ≤ N) (p1 : cp (P i1) n1 T1 A1) (p2 : cp (P i2) n2 T2 A2) : ∀ j k m z, k + j = 324 → j + 1 ≤ m →
    (∃ q lv nm c, ci (st_c n1 n2 T1 T2 A1 A2) z q lv nm c k 0 ∧ ∀ j, j < k → ∀ a, a < 4 → ¬ tc n1 n2 T1 T2 w (q j) a) →
    ∃ r z', f_X4_findRow_43 N P m z i1 i2 (wf w) (ii k) = some (r, z') ∧ c_res T1 T2 A1 A2 w r z' := by
  intro j
  induction j with
  | zero =>
    rintro k m z hj hm ⟨q, lv, nm, c, h, hq⟩
    obtain ⟨m, rfl⟩ : ∃ j, m = j + 1 := ⟨m - 1, by omega⟩
    have hc := bi_c h.2.2.2
    have hkc := h.2.2.2.2.2.2.2.2.1
    obtain rfl : k = c := by omega
    refine ⟨ii 0, z, ?_, Or.inl ⟨rfl, fun n x y h1 h2 => ?_⟩⟩
    · rw [f_X4_findRow_43, h.1]; simp (disch := omega) only [lk_0, lk_1, lk_2, lk_3, lk_4, lk_5, lk_6, lk_7, lk_8, lk_9, lk_10, lk_11, lk_12, lk_13, lk_14, lk_15, lk_16, lk_17, lk_18, lk_19, lk_20, lk_21, lk_22, lk_23, lk_24, lk_25, lk_26, lk_31, lk_32, lk_68, lk_97, lk_100, lk_122, lk_200, lk_255, lk_299, lk_300, lk_301, lk_310, lk_324, lk_400, lk_800, lk_1000, lk_1600, lk_2000, lk_10000, ii_add, ii_mul, ii_lt, ii_le, ii_eq, ii_nat, ib_t, ni_lt_ii, ni_le_ii, ii_lt_ni, ii_le_ni, ni_eq_ii, ii_eq_ni, ni_eq_ni, if_pos, if_neg, if_true, if_false, eq_self, and_self, not_true_eq_false, not_false_eq_true, bd_s, up_same, up_ne, ud_same, ud_ne]
    · obtain ⟨p, t1, t2⟩ := tc_of p1.1 p2.1 h1 h2
      obtain ⟨i, hi, e⟩ := bi_end h.2.2.2 n _ p t1
      subst e
      exact hq i hi _ (by omega) t2
  | succ j ih =>
    rintro k m z hj hm ⟨q, lv, nm, c, h, hq⟩
    obtain ⟨m, rfl⟩ : ∃ j, m = j + 1 := ⟨m - 1, by omega⟩
    have hc := bi_c h.2.2.2
    have hkc := h.2.2.2.2.2.2.2.2.1
    by_cases e : k = c
    · subst e
      refine ⟨ii 0, z, ?_, Or.inl ⟨rfl, fun n x y h1 h2 => ?_⟩⟩
      · rw [f_X4_findRow_43, h.1]; simp (disch := omega) only [lk_0, lk_1, lk_2, lk_3, lk_4, lk_5, lk_6, lk_7, lk_8, lk_9, lk_10, lk_11, lk_12, lk_13, lk_14, lk_15, lk_16, lk_17, lk_18, lk_19, lk_20, lk_21, lk_22, lk_23, lk_24, lk_25, lk_26, lk_31, lk_32, lk_68, lk_97, lk_100, lk_122, lk_200, lk_255, lk_299, lk_300, lk_301, lk_310, lk_324, lk_400, lk_800, lk_1000, lk_1600, lk_2000, lk_10000, ii_add, ii_mul, ii_lt, ii_le, ii_eq, ii_nat, ib_t, ni_lt_ii, ni_le_ii, ii_lt_ni, ii_le_ni, ni_eq_ii, ii_eq_ni, ni_eq_ni, if_pos, if_neg, if_true, if_false, eq_self, and_self, not_true_eq_false, not_false_eq_true, bd_s, up_same, up_ne, ud_same, ud_ne]
      · obtain ⟨p, t1, t2⟩ := tc_of p1.1 p2.1 h1 h2
        obtain ⟨i, hi, e⟩ := bi_end h.2.2.2 n _ p t1
        subst e
        exact hq i hi _ (by omega) t2
    · have hk : k < c := by omega
      rw [f_X4_findRow_43, h.1]
      simp (disch := omega) only [lk_0, lk_1, lk_2, lk_3, lk_4, lk_5, lk_6, lk_7, lk_8, lk_9, lk_10, lk_11, lk_12, lk_13, lk_14, lk_15, lk_16, lk_17, lk_18, lk_19, lk_20, lk_21, lk_22, lk_23, lk_24, lk_25, lk_26, lk_31, lk_32, lk_68, lk_97, lk_100, lk_122, lk_200, lk_255, lk_299, lk_300, lk_301, lk_310, lk_324, lk_400, lk_800, lk_1000, lk_1600, lk_2000, lk_10000, ii_le, if_neg]
      obtain ⟨g, hg⟩ : ∃ g, N = g + 5 := ⟨N - 5, by omega⟩
      have eN : ∀ k43 z x y v, f_X4_findRow_65 N P k43 N z i1 i2 x y v = f_X4_findRow_65 N P k43 (g + 5) z i1 i2 x y v := fun _ _ _ _ _ => by rw [← hg]
      rw [eN]
      have fin : ∀ a, a < 4 → tc n1 n2 T1 T2 w (q k) a → (∀ a', a' < a → ¬ tc n1 n2 T1 T2 w (q k) a') → c_res T1 T2 A1 A2 w (ii 1) (ql_up z.1 6 (fun _ => ii (lv k)), ql_uq z.2 7 (fun _ => ll (4 * nm k + a))) := fun a ha t hl =>
        Or.inr ⟨rfl, lv k, 4 * nm k + a, c_found p1.1 p2.1 h hk ha hq t hl, rfl, rfl⟩
      by_cases t0 : tc n1 n2 T1 T2 w (q k) 0
      · rw [(c_fr65s p1 p2 h hk (by omega)).1 t0]
        exact ⟨_, _, rfl, fin 0 (by omega) t0 (fun a' ha => by omega)⟩
      rw [(c_fr65s p1 p2 h hk (by omega)).2 t0]
      by_cases t1 : tc n1 n2 T1 T2 w (q k) 1
      · rw [(c_fr65s p1 p2 h hk (by omega)).1 t1]
        exact ⟨_, _, rfl, fin 1 (by omega) t1 (fun a' ha => by
          rcases (show a' = 0 by omega) with rfl
          exact t0)⟩
      rw [(c_fr65s p1 p2 h hk (by omega)).2 t1]
      by_cases t2 : tc n1 n2 T1 T2 w (q k) 2
      · rw [(c_fr65s p1 p2 h hk (by omega)).1 t2]
        exact ⟨_, _, rfl, fin 2 (by omega) t2 (fun a' ha => by
          rcases (show a' = 0 ∨ a' = 1 by omega) with rfl | rfl
          · exact t0
          · exact t1)⟩
      rw [(c_fr65s p1 p2 h hk (by omega)).2 t2]
      have all3 : ∀ a', a' < 3 → ¬ tc n1 n2 T1 T2 w (q k) a' := fun a' ha => by
          rcases (show a' = 0 ∨ a' = 1 ∨ a' = 2 by omega) with rfl | rfl | rfl
          · exact t0
          · exact t1
          · exact t2
      by_cases t3 : tc n1 n2 T1 T2 w (q k) 3
      · rw [(c_fr65s p1 p2 h hk (by omega)).1 t3]
        exact ⟨_, _, rfl, fin 3 (by omega) t3 all3⟩
      rw [(c_fr65s p1 p2 h hk (by omega)).2 t3]
      obtain ⟨z', ⟨q', lv', nm', c', h', hk', hq'⟩, eg⟩ := c_goOn (w := w) hN p1 p2 ⟨q, lv, nm, c, h, hk, fun j hj a ha => by
        by_cases e : j = k
        · subst e
          by_cases a3 : a = 3
          · subst a3; exact t3
          · exact all3 a (by omega)
        · exact hq j (by omega) a ha⟩
      rw [f_X4_findRow_65, lk_4, lk_1]
      simp (disch := omega) only [ii_le, if_pos]
      rw [eg, bd_s, ii_add]
      exact ih (k + 1) m z' (by omega) (by omega) ⟨q', lv', nm', c', ⟨h'.1, h'.2.1, h'.2.2.1, bi_next h'.2.2.2 hk'⟩, fun j hj => hq' j (by omega)⟩
theorem c_fr3 {z : ql_Z} {x3 : Int32} {L : Nat → Int32} : ∀ j p m, p + j = 324 → j + 1 ≤ m →
    f_X4_findRow_3 N P m (ql_up z.1 0 (zr p L), z.2) i1 i2 x3 (ii p) = f_X4_findRow_3 N P 1 (ql_up z.1 0 (zr 324 L), z.2) i1 i2 x3 (ii 324)
  | 0, p, m, hp, hm => by
    obtain ⟨m, rfl⟩ : ∃ j, m = j + 1 := ⟨m - 1, by omega⟩
    obtain rfl : p = 324 := by omega
    rw [f_X4_findRow_3, f_X4_findRow_3]
    simp (disch := omega) only [lk_0, lk_1, lk_2, lk_3, lk_4, lk_5, lk_6, lk_7, lk_8, lk_9, lk_10, lk_11, lk_12, lk_13, lk_14, lk_15, lk_16, lk_17, lk_18, lk_19, lk_20, lk_21, lk_22, lk_23, lk_24, lk_25, lk_26, lk_31, lk_32, lk_68, lk_97, lk_100, lk_122, lk_200, lk_255, lk_299, lk_300, lk_301, lk_310, lk_324, lk_400, lk_800, lk_1000, lk_1600, lk_2000, lk_10000, ii_add, ii_mul, ii_lt, ii_le, ii_eq, ii_nat, ib_t, ni_lt_ii, ni_le_ii, ii_lt_ni, ii_le_ni, ni_eq_ii, ii_eq_ni, ni_eq_ni, if_pos, if_neg, if_true, if_false, eq_self, and_self, not_true_eq_false, not_false_eq_true, bd_s, up_same, up_ne, ud_same, ud_ne]
  | j + 1, p, m, hp, hm => by
    obtain ⟨m, rfl⟩ : ∃ j, m = j + 1 := ⟨m - 1, by omega⟩
    rw [f_X4_findRow_3]
    simp (disch := omega) only [lk_0, lk_1, lk_2, lk_3, lk_4, lk_5, lk_6, lk_7, lk_8, lk_9, lk_10, lk_11, lk_12, lk_13, lk_14, lk_15, lk_16, lk_17, lk_18, lk_19, lk_20, lk_21, lk_22, lk_23, lk_24, lk_25, lk_26, lk_31, lk_32, lk_68, lk_97, lk_100, lk_122, lk_200, lk_255, lk_299, lk_300, lk_301, lk_310, lk_324, lk_400, lk_800, lk_1000, lk_1600, lk_2000, lk_10000, ii_add, ii_mul, ii_lt, ii_le, ii_eq, ii_nat, ib_t, ni_lt_ii, ni_le_ii, ii_lt_ni, ii_le_ni, ni_eq_ii, ii_eq_ni, ni_eq_ni, if_pos, if_neg, if_true, if_false, eq_self, and_self, not_true_eq_false, not_false_eq_true, bd_s, up_same, up_ne, ud_same, ud_ne]
    rw [up_up, zr_s]
    exact c_fr3 j (p + 1) m (by omega) (by omega)
theorem c_findRow {z : ql_Z} (hN : 1000 ≤ N) (p1 : cp (P i1) n1 T1 A1) (p2 : cp (P i2) n2 T2 A2) : ∃ r z', f_X4_findRow N P z i1 i2 (wf w) = some (r, z') ∧ c_res T1 T2 A1 A2 w r z' := by
  unfold f_X4_findRow f_X4_findRow_0
  have q := c_fr3 (N := N) (P := P) (i1 := i1) (i2 := i2) (z := z) (x3 := wf w) (L := z.1 0) 324 0 N (by omega) (by omega)
  rw [zr_0, up_self] at q
  rw [lk_0, q, f_X4_findRow_3]
  unfold f_X4_note f_X4_note_0 f_X4_note_24 f_X4_note_25
  have z0 : zr 324 (z.1 0) 0 = ii 0 := zr_in (by omega)
  simp (disch := omega) only [lk_0, lk_1, lk_2, lk_3, lk_4, lk_5, lk_6, lk_7, lk_8, lk_9, lk_10, lk_11, lk_12, lk_13, lk_14, lk_15, lk_16, lk_17, lk_18, lk_19, lk_20, lk_21, lk_22, lk_23, lk_24, lk_25, lk_26, lk_31, lk_32, lk_68, lk_97, lk_100, lk_122, lk_200, lk_255, lk_299, lk_300, lk_301, lk_310, lk_324, lk_400, lk_800, lk_1000, lk_1600, lk_2000, lk_10000, ii_add, ii_mul, ii_lt, ii_le, ii_eq, ii_nat, ib_t, ni_lt_ii, ni_le_ii, ii_lt_ni, ii_le_ni, ni_eq_ii, ii_eq_ni, ni_eq_ni, if_pos, if_neg, if_true, if_false, eq_self, and_self, not_true_eq_false, not_false_eq_true, bd_s, up_same, up_ne, ud_same, ud_ne, z0]
  refine c_fr43 hN p1 p2 324 0 N _ (by omega) (by omega) ⟨fun _ => 0, fun _ => 0, fun _ => 0, 1, ⟨?_, ?_, ?_, ?_⟩, fun j hj => by omega⟩
  · simp (disch := omega) only [lk_0, lk_1, lk_2, lk_3, lk_4, lk_5, lk_6, lk_7, lk_8, lk_9, lk_10, lk_11, lk_12, lk_13, lk_14, lk_15, lk_16, lk_17, lk_18, lk_19, lk_20, lk_21, lk_22, lk_23, lk_24, lk_25, lk_26, lk_31, lk_32, lk_68, lk_97, lk_100, lk_122, lk_200, lk_255, lk_299, lk_300, lk_301, lk_310, lk_324, lk_400, lk_800, lk_1000, lk_1600, lk_2000, lk_10000, ii_add, ii_mul, ii_lt, ii_le, ii_eq, ii_nat, ib_t, ni_lt_ii, ni_le_ii, ii_lt_ni, ii_le_ni, ni_eq_ii, ii_eq_ni, ni_eq_ni, if_pos, if_neg, if_true, if_false, eq_self, and_self, not_true_eq_false, not_false_eq_true, bd_s, up_same, up_ne, ud_same, ud_ne]
  · intro j hj
    obtain rfl : j = 0 := by omega
    simp (disch := omega) only [lk_0, lk_1, lk_2, lk_3, lk_4, lk_5, lk_6, lk_7, lk_8, lk_9, lk_10, lk_11, lk_12, lk_13, lk_14, lk_15, lk_16, lk_17, lk_18, lk_19, lk_20, lk_21, lk_22, lk_23, lk_24, lk_25, lk_26, lk_31, lk_32, lk_68, lk_97, lk_100, lk_122, lk_200, lk_255, lk_299, lk_300, lk_301, lk_310, lk_324, lk_400, lk_800, lk_1000, lk_1600, lk_2000, lk_10000, ii_add, ii_mul, ii_lt, ii_le, ii_eq, ii_nat, ib_t, ni_lt_ii, ni_le_ii, ii_lt_ni, ii_le_ni, ni_eq_ii, ii_eq_ni, ni_eq_ni, if_pos, if_neg, if_true, if_false, eq_self, and_self, not_true_eq_false, not_false_eq_true, bd_s, up_same, up_ne, ud_same, ud_ne, uq_same, ul_same]
    exact ⟨trivial, trivial, trivial, rfl⟩
  · intro y hy
    by_cases e : y = 0
    · subst e
      simp (disch := omega) only [lk_0, lk_1, lk_2, lk_3, lk_4, lk_5, lk_6, lk_7, lk_8, lk_9, lk_10, lk_11, lk_12, lk_13, lk_14, lk_15, lk_16, lk_17, lk_18, lk_19, lk_20, lk_21, lk_22, lk_23, lk_24, lk_25, lk_26, lk_31, lk_32, lk_68, lk_97, lk_100, lk_122, lk_200, lk_255, lk_299, lk_300, lk_301, lk_310, lk_324, lk_400, lk_800, lk_1000, lk_1600, lk_2000, lk_10000, ii_add, ii_mul, ii_lt, ii_le, ii_eq, ii_nat, ib_t, ni_lt_ii, ni_le_ii, ii_lt_ni, ii_le_ni, ni_eq_ii, ii_eq_ni, ni_eq_ni, if_pos, if_neg, if_true, if_false, eq_self, and_self, not_true_eq_false, not_false_eq_true, bd_s, up_same, up_ne, ud_same, ud_ne]
      exact ⟨fun h => by omega, fun h => absurd ⟨0, by omega, rfl⟩ h⟩
    · simp (disch := omega) only [lk_0, lk_1, lk_2, lk_3, lk_4, lk_5, lk_6, lk_7, lk_8, lk_9, lk_10, lk_11, lk_12, lk_13, lk_14, lk_15, lk_16, lk_17, lk_18, lk_19, lk_20, lk_21, lk_22, lk_23, lk_24, lk_25, lk_26, lk_31, lk_32, lk_68, lk_97, lk_100, lk_122, lk_200, lk_255, lk_299, lk_300, lk_301, lk_310, lk_324, lk_400, lk_800, lk_1000, lk_1600, lk_2000, lk_10000, ii_add, ii_mul, ii_lt, ii_le, ii_eq, ii_nat, ib_t, ni_lt_ii, ni_le_ii, ii_lt_ni, ii_le_ni, ni_eq_ii, ii_eq_ni, ni_eq_ni, if_pos, if_neg, if_true, if_false, eq_self, and_self, not_true_eq_false, not_false_eq_true, bd_s, up_same, up_ne, ud_same, ud_ne]
      rw [zr_in hy]
      exact ⟨fun _ ⟨j, _, h⟩ => e h.symm, fun _ => rfl⟩
  · refine ⟨fun j hj => ⟨?_, (show 0 < 324 by omega)⟩, fun i j h1 h2 => by omega, fun x y hx hy => ⟨0, by omega, Option.some.inj hy, Or.inr ⟨rfl, Nat.zero_le _⟩⟩, fun j e y hj hw _ _ => by omega, ?_, by omega, fun j hj _ => Or.inl (by omega)⟩
    · show (if 0 < 1 then ini_c 0 else none) = some 0
      rw [if_pos (by omega)]; rfl
    · rw [ct_ins (S := fun _ => False) (S' := bm (fun _ => 0) 1) (y := 0) (fun h => h) (fun p => ⟨fun ⟨_, _, e⟩ => Or.inr e.symm, fun h => by
        rcases h with h | h
        · exact h.elim
        · exact ⟨0, by omega, h.symm⟩⟩) 324 (by omega), ct_f]
end
