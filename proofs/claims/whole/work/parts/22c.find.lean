/-! the class's search -/
def ll (n : Nat) : Int64 := Int64.ofNat n
theorem ll_add (a b : Nat) : ll a + ll b = ll (a + b) := (Int64.ofNat_add a b).symm
theorem ll_mul (a b : Nat) : ll a * ll b = ll (a * b) := (Int64.ofNat_mul a b).symm
theorem ll_12 : (12 : Int64) = ll 12 := rfl
theorem ll_0 : (0 : Int64) = ll 0 := rfl
theorem ii_ll {a : Nat} (h : a < 2147483648) : (ii a).toInt64 = ll a := by
  have e : Int32.maxValue.toInt = 2147483647 := by decide
  exact Int32.toInt64_ofNat' (by rw [e]; omega)
section
variable {N : Nat} {P : Nat → ql_St}
theorem c_goesx {s : ql_St} {n p a : Nat} {T : pw_T} (hT : c_tab s n T) (hn : n ≤ 16) (hp : p ≤ 17) (ha : a < 4) : f_X6_goes N s (ii p) (ii a) = some (ec (tx n T p a)) := by
  unfold tx
  by_cases q : p ≤ n
  · rw [if_pos q]; exact c_goes hT hn q ha
  · rw [if_neg q]
    exact c_goesg hT.2 hn (by omega) (by omega)
theorem c_goesBy {s : ql_St} {n p a b : Nat} {T : pw_T} {A : Nat → Nat} (hT : c_tab s n T) (hA : c_act (s 5) n A) (ok : pw_ok n T A) (hp : p ≤ 17) (ha : a < 4) (hb : b < 100) (hb1 : 1 ≤ b) : f_X6_goesBy N s (ii p) (ii a) (ii b) = some (ii (gb n T A p a b)) := by
  unfold f_X6_goesBy f_X6_goesBy_0
  rw [c_goesx hT ok.1 hp ha, bd_s]
  have hn := ok.1
  unfold gb
  cases e : tx n T p a with
  | none => simp only [ec]; rw [c_aa9, bd_s]; simp (disch := omega) only [lk_0, lk_1, lk_2, lk_3, lk_4, lk_5, lk_6, lk_7, lk_8, lk_9, lk_10, lk_11, lk_12, lk_13, lk_14, lk_15, lk_16, lk_17, lk_18, lk_19, lk_20, lk_21, lk_22, lk_23, lk_24, lk_25, lk_26, lk_31, lk_32, lk_68, lk_97, lk_100, lk_122, lk_200, lk_255, lk_299, lk_300, lk_301, lk_310, lk_324, lk_400, lk_800, lk_1000, lk_1600, lk_2000, lk_10000, ii_add, ii_mul, ii_lt, ii_le, ii_eq, ii_nat, ib_t, ni_lt_ii, ni_le_ii, ii_lt_ni, ii_le_ni, ni_eq_ii, ii_eq_ni, ni_eq_ni, if_pos, if_neg, if_true, if_false, eq_self, and_self, not_true_eq_false, not_false_eq_true, bd_s, up_same, up_ne, ud_same, ud_ne]
  | some v => cases v with
    | zero => simp only [ec]; rw [c_aa0, bd_s]; simp (disch := omega) only [lk_0, lk_1, lk_2, lk_3, lk_4, lk_5, lk_6, lk_7, lk_8, lk_9, lk_10, lk_11, lk_12, lk_13, lk_14, lk_15, lk_16, lk_17, lk_18, lk_19, lk_20, lk_21, lk_22, lk_23, lk_24, lk_25, lk_26, lk_31, lk_32, lk_68, lk_97, lk_100, lk_122, lk_200, lk_255, lk_299, lk_300, lk_301, lk_310, lk_324, lk_400, lk_800, lk_1000, lk_1600, lk_2000, lk_10000, ii_add, ii_mul, ii_lt, ii_le, ii_eq, ii_nat, ib_t, ni_lt_ii, ni_le_ii, ii_lt_ni, ii_le_ni, ni_eq_ii, ii_eq_ni, ni_eq_ni, if_pos, if_neg, if_true, if_false, eq_self, and_self, not_true_eq_false, not_false_eq_true, bd_s, up_same, up_ne, ud_same, ud_ne]
    | succ v =>
      have hv := tx_le ok.2.1 ha e
      have hA' := ok.2.2 (v + 1) (by omega) hv
      simp only [ec]
      rw [c_aa hT.2 hn (by omega) hv, bd_s, hA (v + 1) (by omega) hv, lk_17]
      have e3 : ii (A (v + 1)) = ii b ↔ A (v + 1) = b := ii_eq (by omega) (by omega)
      by_cases q : A (v + 1) = b
      · rw [if_pos (e3.mpr q), if_pos q]
      · rw [if_neg (fun x => q (e3.mp x)), if_neg q]
def ci (st : Nat → Nat → Option Nat) (z : ql_Z) (q lv nm : Nat → Nat) (c k d : Nat) : Prop :=
  z.1 5 0 = ii c ∧ (∀ j, j < c → z.1 1 j = ii (q j / 18) ∧ z.1 2 j = ii (q j % 18) ∧ z.1 3 j = ii (lv j) ∧ z.2 4 j = ll (4 * nm j)) ∧ (∀ y, y < 324 → (z.1 0 y = ii 0 ↔ ¬ bm q c y)) ∧ bi 1 ini_c st 324 q lv nm c k d
theorem bi_c {B M : Nat} {ini : Nat → Option Nat} {st : Nat → Nat → Option Nat} {q lv nm : Nat → Nat} {c k d : Nat} (h : bi B ini st M q lv nm c k d) : c ≤ M := by
  rw [h.2.2.2.2.1]; exact ct_le _ _
theorem c_note {st : Nat → Nat → Option Nat} {z : ql_Z} {q lv nm : Nat → Nat} {c k d p r : Nat} (h : ci st z q lv nm c k d) (hk : k < c) (hd : d < 12) (hp : p ≤ 17) (hr : r ≤ 17) (hst : st (q k) d = if p = 17 ∧ r = 17 then none else some (p * 18 + r)) :
    ∃ z' q' lv' nm' c', f_X4_note N P z (ii p) (ii r) (ii (lv k + 1)) (ll (4 * (12 * nm k + d))) = some z' ∧ ci st z' q' lv' nm' c' k (d + 1) ∧ c ≤ c' ∧ ∀ j, j < c → q' j = q j := by
  have hc := bi_c h.2.2.2
  have h50 := h.1
  unfold f_X4_note f_X4_note_0 f_X4_note_24 f_X4_note_25 f_X4_note_58 f_X4_note_59
  by_cases b : p = 17 ∧ r = 17
  · rw [if_pos b] at hst
    obtain ⟨rfl, rfl⟩ := b
    refine ⟨z, q, lv, nm, c, by rw [h50]; by_cases hc9 : 324 ≤ c <;> simp (disch := omega) only [lk_0, lk_1, lk_2, lk_3, lk_4, lk_5, lk_6, lk_7, lk_8, lk_9, lk_10, lk_11, lk_12, lk_13, lk_14, lk_15, lk_16, lk_17, lk_18, lk_19, lk_20, lk_21, lk_22, lk_23, lk_24, lk_25, lk_26, lk_31, lk_32, lk_68, lk_97, lk_100, lk_122, lk_200, lk_255, lk_299, lk_300, lk_301, lk_310, lk_324, lk_400, lk_800, lk_1000, lk_1600, lk_2000, lk_10000, ii_add, ii_mul, ii_lt, ii_le, ii_eq, ii_nat, ib_t, ni_lt_ii, ni_le_ii, ii_lt_ni, ii_le_ni, ni_eq_ii, ii_eq_ni, ni_eq_ni, if_pos, if_neg, if_true, if_false, eq_self, and_self, not_true_eq_false, not_false_eq_true, bd_s, up_same, up_ne, ud_same, ud_ne], ⟨h.1, h.2.1, h.2.2.1, bi_skip h.2.2.2 hk (fun y hy => by rw [hst] at hy; cases hy)⟩, Nat.le_refl _, fun _ _ => rfl⟩
  · rw [if_neg b] at hst
    have e0 : ∀ X Y : Option ql_Z, (if ii p = (17 : Int32) then if ii r = (17 : Int32) then X else Y else Y) = Y := fun X Y => by
      have e3 : ii p = ii 17 ↔ p = 17 := ii_eq (by omega) (by omega)
      have e4 : ii r = ii 17 ↔ r = 17 := ii_eq (by omega) (by omega)
      rw [lk_17]
      by_cases q1 : p = 17
      · rw [if_pos (e3.mpr q1), if_neg (fun q2 => b ⟨q1, e4.mp q2⟩)]
      · rw [if_neg (fun x => q1 (e3.mp x))]
    rw [e0]
    have hs := h.2.2.1 (p * 18 + r) (by omega)
    by_cases hm : bm q c (p * 18 + r)
    · have hs' : ¬ z.1 0 (p * 18 + r) = ii 0 := fun e => hs.mp e hm
      refine ⟨z, q, lv, nm, c, ?_, ⟨h.1, h.2.1, h.2.2.1, bi_skip h.2.2.2 hk (fun y hy => by rw [hst] at hy; rw [← Option.some.inj hy]; exact hm)⟩, Nat.le_refl _, fun _ _ => rfl⟩
      rw [h50]; by_cases hc9 : 324 ≤ c <;> simp (disch := omega) only [lk_0, lk_1, lk_2, lk_3, lk_4, lk_5, lk_6, lk_7, lk_8, lk_9, lk_10, lk_11, lk_12, lk_13, lk_14, lk_15, lk_16, lk_17, lk_18, lk_19, lk_20, lk_21, lk_22, lk_23, lk_24, lk_25, lk_26, lk_31, lk_32, lk_68, lk_97, lk_100, lk_122, lk_200, lk_255, lk_299, lk_300, lk_301, lk_310, lk_324, lk_400, lk_800, lk_1000, lk_1600, lk_2000, lk_10000, ii_add, ii_mul, ii_lt, ii_le, ii_eq, ii_nat, ib_t, ni_lt_ii, ni_le_ii, ii_lt_ni, ii_le_ni, ni_eq_ii, ii_eq_ni, ni_eq_ni, if_pos, if_neg, if_true, if_false, eq_self, and_self, not_true_eq_false, not_false_eq_true, bd_s, up_same, up_ne, ud_same, ud_ne]
    · have hs' : z.1 0 (p * 18 + r) = ii 0 := hs.mpr hm
      have hcl : c < 324 := by
        have := ct_room (S := bm q c) (m := 324) (y := p * 18 + r) (by omega) hm
        rw [← h.2.2.2.2.2.2.2.1] at this; exact this
      have h5 := h.1
      refine ⟨(ql_up (ql_up (ql_up (ql_up (ql_up z.1 0 (upd (z.1 0) (p * 18 + r) (ii 1))) 1 (upd (z.1 1) c (ii p))) 2 (upd (z.1 2) c (ii r))) 3 (upd (z.1 3) c (ii (lv k + 1)))) 5 (fun _ => ii (c + 1)), ql_uq z.2 4 (vp_updL (z.2 4) c (ll (4 * (12 * nm k + d))))), fun j => if j = c then p * 18 + r else q j, fun j => if j = c then lv k + 1 else lv j, fun j => if j = c then 12 * nm k + d else nm j, c + 1, ?_, ⟨?_, ?_, ?_, ?_⟩, by omega, fun j hj => if_neg (by omega)⟩
      · simp (disch := omega) only [lk_0, lk_1, lk_2, lk_3, lk_4, lk_5, lk_6, lk_7, lk_8, lk_9, lk_10, lk_11, lk_12, lk_13, lk_14, lk_15, lk_16, lk_17, lk_18, lk_19, lk_20, lk_21, lk_22, lk_23, lk_24, lk_25, lk_26, lk_31, lk_32, lk_68, lk_97, lk_100, lk_122, lk_200, lk_255, lk_299, lk_300, lk_301, lk_310, lk_324, lk_400, lk_800, lk_1000, lk_1600, lk_2000, lk_10000, ii_add, ii_mul, ii_lt, ii_le, ii_eq, ii_nat, ib_t, ni_lt_ii, ni_le_ii, ii_lt_ni, ii_le_ni, ni_eq_ii, ii_eq_ni, ni_eq_ni, if_pos, if_neg, if_true, if_false, eq_self, and_self, not_true_eq_false, not_false_eq_true, bd_s, up_same, up_ne, ud_same, ud_ne, h5, hs']
      · simp (disch := omega) only [lk_0, lk_1, lk_2, lk_3, lk_4, lk_5, lk_6, lk_7, lk_8, lk_9, lk_10, lk_11, lk_12, lk_13, lk_14, lk_15, lk_16, lk_17, lk_18, lk_19, lk_20, lk_21, lk_22, lk_23, lk_24, lk_25, lk_26, lk_31, lk_32, lk_68, lk_97, lk_100, lk_122, lk_200, lk_255, lk_299, lk_300, lk_301, lk_310, lk_324, lk_400, lk_800, lk_1000, lk_1600, lk_2000, lk_10000, ii_add, ii_mul, ii_lt, ii_le, ii_eq, ii_nat, ib_t, ni_lt_ii, ni_le_ii, ii_lt_ni, ii_le_ni, ni_eq_ii, ii_eq_ni, ni_eq_ni, if_pos, if_neg, if_true, if_false, eq_self, and_self, not_true_eq_false, not_false_eq_true, bd_s, up_same, up_ne, ud_same, ud_ne, h5]
      · intro j hj
        by_cases e : j = c
        · subst e
          have d1 : (p * 18 + r) / 18 = p := by omega
          have d2 : (p * 18 + r) % 18 = r := by omega
          simp (disch := omega) only [lk_0, lk_1, lk_2, lk_3, lk_4, lk_5, lk_6, lk_7, lk_8, lk_9, lk_10, lk_11, lk_12, lk_13, lk_14, lk_15, lk_16, lk_17, lk_18, lk_19, lk_20, lk_21, lk_22, lk_23, lk_24, lk_25, lk_26, lk_31, lk_32, lk_68, lk_97, lk_100, lk_122, lk_200, lk_255, lk_299, lk_300, lk_301, lk_310, lk_324, lk_400, lk_800, lk_1000, lk_1600, lk_2000, lk_10000, ii_add, ii_mul, ii_lt, ii_le, ii_eq, ii_nat, ib_t, ni_lt_ii, ni_le_ii, ii_lt_ni, ii_le_ni, ni_eq_ii, ii_eq_ni, ni_eq_ni, if_pos, if_neg, if_true, if_false, eq_self, and_self, not_true_eq_false, not_false_eq_true, bd_s, up_same, up_ne, ud_same, ud_ne, h5, uq_same, ul_same, d1, d2]
        · simp (disch := omega) only [lk_0, lk_1, lk_2, lk_3, lk_4, lk_5, lk_6, lk_7, lk_8, lk_9, lk_10, lk_11, lk_12, lk_13, lk_14, lk_15, lk_16, lk_17, lk_18, lk_19, lk_20, lk_21, lk_22, lk_23, lk_24, lk_25, lk_26, lk_31, lk_32, lk_68, lk_97, lk_100, lk_122, lk_200, lk_255, lk_299, lk_300, lk_301, lk_310, lk_324, lk_400, lk_800, lk_1000, lk_1600, lk_2000, lk_10000, ii_add, ii_mul, ii_lt, ii_le, ii_eq, ii_nat, ib_t, ni_lt_ii, ni_le_ii, ii_lt_ni, ii_le_ni, ni_eq_ii, ii_eq_ni, ni_eq_ni, if_pos, if_neg, if_true, if_false, eq_self, and_self, not_true_eq_false, not_false_eq_true, bd_s, up_same, up_ne, ud_same, ud_ne, h5, uq_same, ul_ne]
          exact h.2.1 j (by omega)
      · intro y hy
        have e : bm (fun j => if j = c then p * 18 + r else q j) (c + 1) y ↔ bm q c y ∨ y = p * 18 + r := by
          constructor
          · rintro ⟨j, hj, e⟩
            have e : (if j = c then p * 18 + r else q j) = y := e
            by_cases q1 : j = c
            · rw [if_pos q1] at e; exact Or.inr e.symm
            · rw [if_neg q1] at e; exact Or.inl ⟨j, by omega, e⟩
          · rintro (⟨j, hj, e⟩ | e)
            · exact ⟨j, by omega, by show (if j = c then _ else q j) = y; rw [if_neg (by omega)]; exact e⟩
            · exact ⟨c, by omega, by show (if c = c then _ else q c) = y; rw [if_pos rfl]; exact e.symm⟩
        rw [e]
        by_cases q1 : y = p * 18 + r
        · subst q1
          simp (disch := omega) only [lk_0, lk_1, lk_2, lk_3, lk_4, lk_5, lk_6, lk_7, lk_8, lk_9, lk_10, lk_11, lk_12, lk_13, lk_14, lk_15, lk_16, lk_17, lk_18, lk_19, lk_20, lk_21, lk_22, lk_23, lk_24, lk_25, lk_26, lk_31, lk_32, lk_68, lk_97, lk_100, lk_122, lk_200, lk_255, lk_299, lk_300, lk_301, lk_310, lk_324, lk_400, lk_800, lk_1000, lk_1600, lk_2000, lk_10000, ii_add, ii_mul, ii_lt, ii_le, ii_eq, ii_nat, ib_t, ni_lt_ii, ni_le_ii, ii_lt_ni, ii_le_ni, ni_eq_ii, ii_eq_ni, ni_eq_ni, if_pos, if_neg, if_true, if_false, eq_self, and_self, not_true_eq_false, not_false_eq_true, bd_s, up_same, up_ne, ud_same, ud_ne, h5]
          simp
        · simp (disch := omega) only [lk_0, lk_1, lk_2, lk_3, lk_4, lk_5, lk_6, lk_7, lk_8, lk_9, lk_10, lk_11, lk_12, lk_13, lk_14, lk_15, lk_16, lk_17, lk_18, lk_19, lk_20, lk_21, lk_22, lk_23, lk_24, lk_25, lk_26, lk_31, lk_32, lk_68, lk_97, lk_100, lk_122, lk_200, lk_255, lk_299, lk_300, lk_301, lk_310, lk_324, lk_400, lk_800, lk_1000, lk_1600, lk_2000, lk_10000, ii_add, ii_mul, ii_lt, ii_le, ii_eq, ii_nat, ib_t, ni_lt_ii, ni_le_ii, ii_lt_ni, ii_le_ni, ni_eq_ii, ii_eq_ni, ni_eq_ni, if_pos, if_neg, if_true, if_false, eq_self, and_self, not_true_eq_false, not_false_eq_true, bd_s, up_same, up_ne, ud_same, ud_ne, h5]
          rw [h.2.2.1 y hy]
          exact ⟨fun a b => by rcases b with b | b; exact a b; exact q1 b, fun a b => a (Or.inl b)⟩
      · exact bi_push h.2.2.2 hk hd hst (by omega) hm (fun j hj => ⟨if_neg (by omega), if_neg (by omega), if_neg (by omega)⟩) ⟨if_pos rfl, if_pos rfl, if_pos rfl⟩
variable {n1 n2 i1 i2 : Nat} {T1 T2 : pw_T} {A1 A2 : Nat → Nat} {w : Bool}
def tc (n1 n2 : Nat) (T1 T2 : pw_T) (w : Bool) (y a : Nat) : Prop := ∃ t, tg n1 n2 T1 T2 y a = some t ∧ te w t
def cx (n1 n2 : Nat) (T1 T2 : pw_T) (A1 A2 : Nat → Nat) (w : Bool) (z : ql_Z) (k d : Nat) : Prop :=
  ∃ q lv nm c, ci (st_c n1 n2 T1 T2 A1 A2) z q lv nm c k d ∧ k < c ∧ ∀ j, j ≤ k → ∀ a, a < 4 → ¬ tc n1 n2 T1 T2 w (q j) a
/-- a plan's picture, as far as the search reads it -/
def cp (s : ql_St) (n : Nat) (T : pw_T) (A : Nat → Nat) : Prop := pw_ok n T A ∧ c_tab s n T ∧ c_act (s 5) n A
theorem c_go12s {z : ql_Z} {k a b m : Nat} {k3 : ql_Z → Nat → Nat → Int32 → Int32 → Option ql_Z} (p1 : cp (P i1) n1 T1 A1) (p2 : cp (P i2) n2 T2 A2) (ha : a < 4) (hb : b < 3) (h : cx n1 n2 T1 T2 A1 A2 w z k (3 * a + b)) :
    ∃ z', cx n1 n2 T1 T2 A1 A2 w z' k (3 * a + b + 1) ∧ f_X4_goOn_12 N P k3 (m + 1) z i1 i2 (ii k) (ii a) (ii (b + 1)) = f_X4_goOn_12 N P k3 m z' i1 i2 (ii k) (ii a) (ii (b + 2)) := by
  obtain ⟨q, lv, nm, c, hc, hk, hq⟩ := h
  have hc324 := bi_c hc.2.2.2
  have hqk := (hc.2.2.2.1 k hk).2
  obtain ⟨e1, e2, e3, e4⟩ := hc.2.1 k hk
  have k1 : (3 * a + b) / 3 = a := by omega
  have k2 : (3 * a + b) % 3 = b := by omega
  have g1 := gb_le (A := A1) (p := q k / 18) (b := b + 1) p1.1.2.1 p1.1.1 ha
  have g2 := gb_le (A := A2) (p := q k % 18) (b := b + 1) p2.1.2.1 p2.1.1 ha
  obtain ⟨z', q', lv', nm', c', en, hci, hcc, hqq⟩ := c_note (N := N) (P := P) (p := gb n1 T1 A1 (q k / 18) a (b + 1)) (r := gb n2 T2 A2 (q k % 18) a (b + 1)) hc hk (by omega) g1 g2 (by unfold st_c; rw [k1, k2])
  refine ⟨z', ⟨q', lv', nm', c', hci, by omega, fun j hj => by rw [hqq j (by omega)]; exact hq j hj⟩, ?_⟩
  rw [f_X4_goOn_12, lk_3]
  simp (disch := omega) only [ii_lt, if_neg, ib_t, ii_nat, e1, e2, e3, e4]
  rw [c_goesBy p1.2.1 p1.2.2 p1.1 (by omega) ha (by omega) (by omega), bd_s, c_goesBy p2.2.1 p2.2.2 p2.1 (by omega) ha (by omega) (by omega), bd_s]
  have er : ((ll (4 * nm k) + (ii a).toInt64) * 12 + ((ii (b + 1) - 1) * 4).toInt64) = ll (4 * (12 * nm k + (3 * a + b))) := by
    rw [lk_1, ii_sub (by omega), lk_4, ii_mul, ii_ll (by omega), ii_ll (by omega), ll_12, ll_add, ll_mul, ll_add]
    congr 1; omega
  rw [er, lk_1, ii_add, en, bd_s, ii_add]
theorem c_goOn {z : ql_Z} {k : Nat} (hN : 1000 ≤ N) (p1 : cp (P i1) n1 T1 A1) (p2 : cp (P i2) n2 T2 A2) (h : cx n1 n2 T1 T2 A1 A2 w z k 0) :
    ∃ z', cx n1 n2 T1 T2 A1 A2 w z' k 12 ∧ f_X4_goOn N P z i1 i2 (ii k) = some z' := by
  have row : ∀ a z m, a < 4 → cx n1 n2 T1 T2 A1 A2 w z k (3 * a) → ∃ z', cx n1 n2 T1 T2 A1 A2 w z' k (3 * (a + 1)) ∧ f_X4_goOn_3 N P (m + 1) z i1 i2 (ii k) (ii a) = f_X4_goOn_3 N P m z' i1 i2 (ii k) (ii (a + 1)) := by
    intro a z m ha h
    obtain ⟨j, rfl⟩ : ∃ j, N = j + 4 := ⟨N - 4, by omega⟩
    obtain ⟨z1, h1, f1⟩ := c_go12s (N := j + 4) (b := 0) (m := j + 3) (k3 := f_X4_goOn_3 (j + 4) P m) p1 p2 ha (by omega) h
    obtain ⟨z2, h2, f2⟩ := c_go12s (N := j + 4) (b := 1) (m := j + 2) (k3 := f_X4_goOn_3 (j + 4) P m) p1 p2 ha (by omega) h1
    obtain ⟨z3, h3, f3⟩ := c_go12s (N := j + 4) (b := 2) (m := j + 1) (k3 := f_X4_goOn_3 (j + 4) P m) p1 p2 ha (by omega) h2
    refine ⟨z3, h3, ?_⟩
    rw [f_X4_goOn_3, lk_4, lk_1]
    simp (disch := omega) only [ii_le, if_neg]
    rw [f1, f2, f3, f_X4_goOn_12, lk_3]
    simp (disch := omega) only [ii_lt, if_pos]
    rw [lk_1, ii_add]
  unfold f_X4_goOn f_X4_goOn_0
  obtain ⟨j, hj⟩ : ∃ j, N = j + 5 := ⟨N - 5, by omega⟩
  obtain ⟨z1, h1, f1⟩ := row 0 z (j + 4) (by omega) h
  obtain ⟨z2, h2, f2⟩ := row 1 z1 (j + 3) (by omega) h1
  obtain ⟨z3, h3, f3⟩ := row 2 z2 (j + 2) (by omega) h2
  obtain ⟨z4, h4, f4⟩ := row 3 z3 (j + 1) (by omega) h3
  refine ⟨z4, h4, ?_⟩
  have e : f_X4_goOn_3 N P N z i1 i2 (ii k) 0 = f_X4_goOn_3 N P (j + 5) z i1 i2 (ii k) (ii 0) := by rw [← hj]; rfl
  rw [e, f1, f2, f3, f4, f_X4_goOn_3, lk_4]
  simp (disch := omega) only [ii_le, if_pos]
end
