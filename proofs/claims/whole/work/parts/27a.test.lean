/-! tests: what is read, and the class's reading -/
def pT (tk : Nat → Nat) (r1 : Nat → Nat → Bool × Nat × Nat) (o : Nat) : Nat → Nat → Nat → Nat → Bool × Nat × Nat
  | 0, any, _, k => (true, any, k)
  | f + 1, any, both, k => if (r1 o k).1 = true then
      (if tk (r1 o k).2.2 = 19 then pT tk r1 o f any (both &&& (r1 o k).2.1) ((r1 o k).2.2 + 1)
      else if tk (r1 o k).2.2 = 18 then pT tk r1 o f (any ||| (both &&& (r1 o k).2.1)) 15 ((r1 o k).2.2 + 1)
      else (true, any ||| (both &&& (r1 o k).2.1), (r1 o k).2.2))
    else (false, 0, (r1 o k).2.2)
def p1 (tk : Nat → Nat) : Nat → Nat → Nat → Bool × Nat × Nat
  | 0, _, k => (false, 0, k)
  | d + 1, o, k =>
    if tk k = 10 then (true, 10, k + 1) else if tk k = 11 then (true, 12, k + 1) else if tk k = 15 then (true, 0, k + 1) else if tk k = 16 then (true, 15, k + 1)
    else if tk k = 20 then (if 8 ≤ o then (false, 0, k) else if (p1 tk d (o + 1) (k + 1)).1 = true then (true, 15 - (p1 tk d (o + 1) (k + 1)).2.1, (p1 tk d (o + 1) (k + 1)).2.2) else (false, 0, (p1 tk d (o + 1) (k + 1)).2.2))
    else if tk k = 21 then (if 8 ≤ o then (false, 0, k) else if (pT tk (p1 tk d) (o + 1) 300 0 15 (k + 1)).1 = true then (if tk (pT tk (p1 tk d) (o + 1) 300 0 15 (k + 1)).2.2 = 22 then (true, (pT tk (p1 tk d) (o + 1) 300 0 15 (k + 1)).2.1, (pT tk (p1 tk d) (o + 1) 300 0 15 (k + 1)).2.2 + 1) else (false, 0, (pT tk (p1 tk d) (o + 1) 300 0 15 (k + 1)).2.2)) else (false, 0, (pT tk (p1 tk d) (o + 1) 300 0 15 (k + 1)).2.2))
    else (false, 0, k)
/-- a whole test -/
def pt (tk : Nat → Nat) (o k : Nat) : Bool × Nat × Nat := pT tk (p1 tk 10) o 300 0 15 k
section
variable {tk : Nat → Nat} {c : Nat}
/-- tokens: c of them, then 23 -/
def te_ok (tk : Nat → Nat) (c : Nat) : Prop := c ≤ 300 ∧ tk c = 23 ∧ ∀ k, tk k < 25
/-- what a reading leaves: a number below 16, not past the end -/
def ro (c k : Nat) (r : Bool × Nat × Nat) : Prop := r.2.1 < 16 ∧ r.2.2 ≤ c ∧ k ≤ r.2.2 ∧ (r.1 = true → k < r.2.2)
theorem and_lt (a : Nat) {x : Nat} (hx : x < 16) : a &&& x < 16 := Nat.lt_of_le_of_lt Nat.and_le_right hx
theorem or_lt {a x : Nat} (ha : a < 16) (hx : x < 16) : a ||| x < 16 := Nat.or_lt_two_pow (n := 4) ha hx
theorem pT_ro (ht : te_ok tk c) {r1 : Nat → Nat → Bool × Nat × Nat} {o : Nat} (h1 : ∀ k, k ≤ c → ro c k (r1 o k)) : ∀ f any both k, any < 16 → k ≤ c → 0 < f ∨ True → ((pT tk r1 o f any both k).2.1 < 16 ∧ (pT tk r1 o f any both k).2.2 ≤ c ∧ k ≤ (pT tk r1 o f any both k).2.2 ∧ (0 < f → (pT tk r1 o f any both k).1 = true → k < (pT tk r1 o f any both k).2.2)) := by
  intro f
  induction f with
  | zero => intro any both k ha hk _; exact ⟨ha, hk, Nat.le_refl _, fun h => by omega⟩
  | succ f ih =>
    intro any both k ha hk _
    obtain ⟨a1, a2, a3, a4⟩ := h1 k hk
    rw [pT]
    by_cases c1 : (r1 o k).1 = true
    · have a4 := a4 c1
      rw [if_pos c1]
      have hx := and_lt both a1
      by_cases c2 : tk (r1 o k).2.2 = 19
      · rw [if_pos c2]
        have hne : (r1 o k).2.2 ≠ c := fun e => by rw [e, ht.2.1] at c2; omega
        obtain ⟨b1, b2, b3, _⟩ := ih any (both &&& (r1 o k).2.1) ((r1 o k).2.2 + 1) ha (by omega) (Or.inr trivial)
        exact ⟨b1, b2, by omega, fun _ _ => by omega⟩
      · rw [if_neg c2]
        by_cases c3 : tk (r1 o k).2.2 = 18
        · rw [if_pos c3]
          have hne : (r1 o k).2.2 ≠ c := fun e => by rw [e, ht.2.1] at c3; omega
          obtain ⟨b1, b2, b3, _⟩ := ih (any ||| (both &&& (r1 o k).2.1)) 15 ((r1 o k).2.2 + 1) (or_lt ha hx) (by omega) (Or.inr trivial)
          exact ⟨b1, b2, by omega, fun _ _ => by omega⟩
        · rw [if_neg c3]
          exact ⟨or_lt ha hx, a2, a3, fun _ _ => a4⟩
    · rw [if_neg c1]
      exact ⟨by show 0 < 16; omega, a2, a3, fun _ h => by cases h⟩
theorem p1_ro (ht : te_ok tk c) : ∀ d o k, k ≤ c → ro c k (p1 tk d o k)
  | 0, o, k, hk => ⟨by show 0 < 16; omega, hk, Nat.le_refl _, fun h => by cases h⟩
  | d + 1, o, k, hk => by
    have lit : ∀ t v, t ≠ 23 → v < 16 → tk k = t → ro c k (true, v, k + 1) := fun t v h1 h2 h3 => by
      have hne : k ≠ c := fun e => by rw [e, ht.2.1] at h3; omega
      exact ⟨h2, by show k + 1 ≤ c; omega, by show k ≤ k + 1; omega, fun _ => by show k < k + 1; omega⟩
    have bad : ∀ k', k ≤ k' → k' ≤ c → ro c k (false, 0, k') := fun k' h1 h2 => ⟨by show 0 < 16; omega, h2, h1, fun h => by cases h⟩
    rw [p1]
    by_cases c1 : tk k = 10
    · rw [if_pos c1]; exact lit 10 10 (by omega) (by omega) c1
    rw [if_neg c1]
    by_cases c2 : tk k = 11
    · rw [if_pos c2]; exact lit 11 12 (by omega) (by omega) c2
    rw [if_neg c2]
    by_cases c3 : tk k = 15
    · rw [if_pos c3]; exact lit 15 0 (by omega) (by omega) c3
    rw [if_neg c3]
    by_cases c4 : tk k = 16
    · rw [if_pos c4]; exact lit 16 15 (by omega) (by omega) c4
    rw [if_neg c4]
    by_cases c5 : tk k = 20
    · rw [if_pos c5]
      have hne : k ≠ c := fun e => by rw [e, ht.2.1] at c5; omega
      by_cases c8 : 8 ≤ o
      · rw [if_pos c8]; exact bad k (Nat.le_refl _) hk
      · rw [if_neg c8]
        obtain ⟨a1, a2, a3, a4⟩ := p1_ro ht d (o + 1) (k + 1) (by omega)
        by_cases q : (p1 tk d (o + 1) (k + 1)).1 = true
        · rw [if_pos q]
          exact ⟨by show 15 - _ < 16; omega, a2, by show k ≤ (p1 tk d (o + 1) (k + 1)).2.2; omega, fun _ => by show k < (p1 tk d (o + 1) (k + 1)).2.2; omega⟩
        · rw [if_neg q]; exact bad _ (by omega) a2
    rw [if_neg c5]
    by_cases c6 : tk k = 21
    · rw [if_pos c6]
      have hne : k ≠ c := fun e => by rw [e, ht.2.1] at c6; omega
      by_cases c8 : 8 ≤ o
      · rw [if_pos c8]; exact bad k (Nat.le_refl _) hk
      · rw [if_neg c8]
        obtain ⟨a1, a2, a3, a4⟩ := pT_ro ht (r1 := p1 tk d) (o := o + 1) (fun k hk => p1_ro ht d (o + 1) k hk) 300 0 15 (k + 1) (by omega) (by omega) (Or.inr trivial)
        by_cases q : (pT tk (p1 tk d) (o + 1) 300 0 15 (k + 1)).1 = true
        · rw [if_pos q]
          by_cases q2 : tk (pT tk (p1 tk d) (o + 1) 300 0 15 (k + 1)).2.2 = 22
          · rw [if_pos q2]
            have hne2 : (pT tk (p1 tk d) (o + 1) 300 0 15 (k + 1)).2.2 ≠ c := fun e => by rw [e, ht.2.1] at q2; omega
            exact ⟨a1, by show _ + 1 ≤ c; omega, by show k ≤ _ + 1; omega, fun _ => by show k < _ + 1; omega⟩
          · rw [if_neg q2]; exact bad _ (by omega) a2
        · rw [if_neg q]; exact bad _ (by omega) a2
    rw [if_neg c6]
    exact bad k (Nat.le_refl _) hk
variable {N : Nat} {bg : Nat → Nat}
/-- the reader's tokens; it stands at the k-th -/
def cy (y : ql_St) (tk bg : Nat → Nat) (c : Nat) : Prop := ∀ j, j ≤ c → y 0 j = ii (tk j) ∧ y 1 j = ii (bg j)
theorem cy_f {y y' : ql_St} (h : cy y tk bg c) (e0 : y' 0 = y 0) (e1 : y' 1 = y 1) : cy y' tk bg c := by unfold cy at *; rw [e0, e1]; exact h
/-- the state behind a reading of a test -/
def rs (y : ql_Y) (bg : Nat → Nat) (r : Bool × Nat × Nat) : Int32 × ql_Y := if r.1 = true then (ii r.2.1, (ql_up y.1 2 (fun _ => ii r.2.2), y.2)) else (-ii 1, (ql_up (ql_up y.1 2 (fun _ => ii r.2.2)) 3 (fun _ => ii (bg r.2.2)), y.2))
theorem c_token {y : ql_Y} {k : Nat} (hc : c ≤ 300) (h : cy y.1 tk bg c) (hk : k ≤ c) (h2 : y.1 2 0 = ii k) : f_X7_token N y = some (ii (tk k)) := by
  unfold f_X7_token f_X7_token_0
  rw [h2, ii_nat (by omega), (h k hk).1]
  exact sn (le_n (a := 301) k (by omega) (by omega)) (sp (ii_ib (by omega) (by omega)) rfl)
theorem c_refuse {y : ql_Y} {k : Nat} (hc : c ≤ 300) (h : cy y.1 tk bg c) (hk : k ≤ c) (h2 : y.1 2 0 = ii k) : f_X7_refuse N y = some (ii 0, (ql_up y.1 3 (fun _ => ii (bg k)), y.2)) := by
  unfold f_X7_refuse f_X7_refuse_0 f_X7_refuse_28
  rw [h2, ii_nat (by omega), (h k hk).2]
  exact sn (le_n (a := 301) k (by omega) (by omega)) (sp (ii_ib (by omega) (by omega)) rfl)
theorem ii_and {a b : Nat} (ha : a < 16) (hb : b < 16) : ii a &&& ii b = ii (a &&& b) := by
  have t : ∀ a b : Fin 16, ii a.1 &&& ii b.1 = ii (a.1 &&& b.1) := by decide +kernel
  exact t ⟨a, ha⟩ ⟨b, hb⟩
theorem ii_or {a b : Nat} (ha : a < 16) (hb : b < 16) : ii a ||| ii b = ii (a ||| b) := by
  have t : ∀ a b : Fin 16, ii a.1 ||| ii b.1 = ii (a.1 ||| b.1) := by decide +kernel
  exact t ⟨a, ha⟩ ⟨b, hb⟩
/-- readings of ONE that r1 does as q1 says -/
def r1ok (N : Nat) (tk bg : Nat → Nat) (c : Nat) (r1 : ql_Y → Int32 → Option (Int32 × ql_Y)) (q1 : Nat → Nat → Bool × Nat × Nat) (o : Nat) : Prop :=
  ∀ (y : ql_Y) k, cy y.1 tk bg c → k ≤ c → r1 (ql_up y.1 2 (fun _ => ii k), y.2) (ii o) = some (rs y bg (q1 o k))
theorem rs_t {y : ql_Y} {r : Bool × Nat × Nat} (h : r.1 = true) : rs y bg r = (ii r.2.1, (ql_up y.1 2 (fun _ => ii r.2.2), y.2)) := by unfold rs; rw [if_pos h]
theorem rs_n {y : ql_Y} {r : Bool × Nat × Nat} (h : ¬ r.1 = true) : rs y bg r = (-ii 1, (ql_up (ql_up y.1 2 (fun _ => ii r.2.2)) 3 (fun _ => ii (bg r.2.2)), y.2)) := by unfold rs; rw [if_neg h]
theorem c_test8 (hN : 1000 ≤ N) (ht : te_ok tk c) {r1 : ql_Y → Int32 → Option (Int32 × ql_Y)} {q1 : Nat → Nat → Bool × Nat × Nat} {o : Nat} (hr : r1ok N tk bg c r1 q1 o) (hro : ∀ k, k ≤ c → ro c k (q1 o k)) (y : ql_Y) (hy : cy y.1 tk bg c) : ∀ f x m any both k, x + f = 300 → f + 1 ≤ m → any < 16 → both < 16 → k ≤ c →
    f_X7_readTest_8 N r1 m (ql_up y.1 2 (fun _ => ii k), y.2) (ii o) (ii any) (ii both) (ii x) = some (rs y bg (pT tk q1 o f any both k)) := by
  have hc := ht.1
  intro f
  induction f with
  | zero =>
    intro x m any both k hx hm ha hb hk
    obtain ⟨m, rfl⟩ : ∃ j, m = j + 1 := ⟨m - 1, by omega⟩
    rw [f_X7_readTest_8]
    exact sp (le_y (a := 300) x (by omega) (by omega)) rfl
  | succ f ih =>
    intro x m any both k hx hm ha hb hk
    obtain ⟨m, rfl⟩ : ∃ j, m = j + 1 := ⟨m - 1, by omega⟩
    obtain ⟨a1, a2, a3, a4⟩ := hro k hk
    rw [f_X7_readTest_8, pT]
    refine sn (le_n (a := 300) x (by omega) (by omega)) (sb (hr y k hy hk) ?_)
    by_cases q : (q1 o k).1 = true
    · rw [if_pos q, rs_t q]
      have tok := c_token (N := N) (y := (ql_up y.1 2 (fun _ => ii (q1 o k).2.2), y.2)) hc (cy_f hy rfl rfl) a2 rfl
      have nm : ¬ ii (q1 o k).2.1 = -1 := fun x => by have := (ii_eq_ni (show 1 < 2147483648 by omega) (show (q1 o k).2.1 < 2147483648 by omega)).mp x; omega
      have ht25 := ht.2.2 (q1 o k).2.2
      have t19 : ii (tk (q1 o k).2.2) = 19 ↔ tk (q1 o k).2.2 = 19 := ii_eq (b := 19) (by omega) (by omega)
      have t18 : ii (tk (q1 o k).2.2) = 18 ↔ tk (q1 o k).2.2 = 18 := ii_eq (b := 18) (by omega) (by omega)
      have hx16 := and_lt both a1
      refine sn nm (sb tok ?_)
      unfold f_X7_readTest_63
      by_cases c2 : tk (q1 o k).2.2 = 19
      · rw [if_pos c2]
        have hne : (q1 o k).2.2 ≠ c := fun e => by rw [e, ht.2.1] at c2; omega
        refine sp (t19.mpr c2) ?_
        rw [← ih (x + 1) m any (both &&& (q1 o k).2.1) ((q1 o k).2.2 + 1) (by omega) (by omega) ha hx16 (by omega), ← ii_and hb a1, ← ii_add, ← lk_1]
        show f_X7_readTest_8 N r1 m (ql_up (ql_up y.1 2 (fun _ => ii (q1 o k).2.2)) 2 (fun _ => ii (q1 o k).2.2 + 1), y.2) _ _ _ _ = _
        rw [up_up, lk_1, ii_add, ii_add]
      · rw [if_neg c2]
        refine sn (fun x => c2 (t19.mp x)) (sb tok ?_)
        by_cases c3 : tk (q1 o k).2.2 = 18
        · rw [if_pos c3]
          have hne : (q1 o k).2.2 ≠ c := fun e => by rw [e, ht.2.1] at c3; omega
          refine sp (t18.mpr c3) ?_
          rw [← ih (x + 1) m (any ||| (both &&& (q1 o k).2.1)) 15 ((q1 o k).2.2 + 1) (by omega) (by omega) (or_lt ha hx16) (by omega) (by omega), ← ii_or ha hx16, ← ii_and hb a1, ← ii_add, ← lk_1]
          show f_X7_readTest_8 N r1 m (ql_up (ql_up y.1 2 (fun _ => ii (q1 o k).2.2)) 2 (fun _ => ii (q1 o k).2.2 + 1), y.2) _ _ _ _ = _
          rw [up_up, lk_1, ii_add, ii_add]
          rfl
        · rw [if_neg c3]
          refine sn (fun x => c3 (t18.mp x)) ?_
          rw [ii_and hb a1, ii_or ha hx16, rs_t rfl]
    · rw [if_neg q, rs_n q, rs_n (r := (false, 0, (q1 o k).2.2)) (fun h => by cases h)]
      exact sp rfl rfl
theorem c_tak {y : ql_Y} {k w : Nat} (ht : te_ok tk c) (h : cy y.1 tk bg c) (hk : k ≤ c) (h2 : y.1 2 0 = ii k) (hw : w < 23) :
    (tk k = w → f_X7_take N y (ii w) = some (ii 1, (ql_up y.1 2 (fun _ => ii (k + 1)), y.2))) ∧ (tk k ≠ w → f_X7_take N y (ii w) = some (ii 0, (ql_up y.1 3 (fun _ => ii (bg k)), y.2))) := by
  have hc := ht.1
  have tok := c_token (N := N) (y := y) hc h hk h2
  have h25 := ht.2.2 k
  have e : ii (tk k) = ii w ↔ tk k = w := ii_eq (by omega) (by omega)
  unfold f_X7_take f_X7_take_0
  refine ⟨fun q => ?_, fun q => ?_⟩
  · refine sb tok (sp (e.mpr q) ?_)
    rw [h2, lk_1, ii_add]
  · exact sb tok (sn (fun x => q (e.mp x)) (sb (c_refuse hc h hk h2) (sp bz_0 rfl)))
theorem c_rft {y : ql_Y} {k : Nat} (hc : c ≤ 300) (h : cy y.1 tk bg c) (hk : k ≤ c) : f_X7_refuseTest N (ql_up y.1 2 (fun _ => ii k), y.2) = some (rs y bg (false, 0, k)) := by
  unfold f_X7_refuseTest f_X7_refuseTest_0
  exact sb (c_refuse hc (cy_f h rfl rfl) hk rfl) rfl
theorem c_one (hN : 1000 ≤ N) (ht : te_ok tk c) : ∀ d o, o ≤ 8 → 9 - o ≤ d → r1ok N tk bg c (f_X7_readOne N d) (p1 tk d) o
  | 0, o, ho, hd => by omega
  | d + 1, o, ho, hd => by
    intro y k hy hk
    have hc := ht.1
    have tok := c_token (N := N) (y := (ql_up y.1 2 (fun _ => ii k), y.2)) hc (cy_f hy rfl rfl) hk rfl
    have h25 := ht.2.2 k
    have e : ∀ t, t < 25 → (ii (tk k) = ii t ↔ tk k = t) := fun t h => ii_eq (by omega) (by omega)
    have bad : f_X7_readOne_161 N (f_X7_readOne N d) (ql_up y.1 2 (fun _ => ii k), y.2) = some (rs y bg (false, 0, k)) := by
      unfold f_X7_readOne_161
      exact sb (c_rft hc hy hk) rfl
    have now1 : ∀ v : Int32, some (v, (ql_up (ql_up y.1 2 (fun _ => ii k)) 2 (fun _ => ii k + 1), y.2)) = some (v, (ql_up y.1 2 (fun _ => ii (k + 1)), y.2)) := fun v => by rw [up_up, lk_1, ii_add]
    have lit : ∀ v, (some (ii v, (ql_up (ql_up y.1 2 (fun _ => ii k)) 2 (fun _ => ii k + 1), y.2)) : Option (Int32 × ql_Y)) = some (rs y bg (true, v, k + 1)) := fun v => by rw [now1, rs_t rfl]
    show f_X7_readOne_0 N (f_X7_readOne N d) (ql_up y.1 2 (fun _ => ii k), y.2) (ii o) = _
    unfold f_X7_readOne_0
    rw [p1]
    refine sb tok ?_
    by_cases c1 : tk k = 10
    · rw [if_pos c1]; exact sp ((e 10 (by omega)).mpr c1) (lit 10)
    rw [if_neg c1]; refine sn (fun x => c1 ((e 10 (by omega)).mp x)) ?_
    by_cases c2 : tk k = 11
    · rw [if_pos c2]; exact sp ((e 11 (by omega)).mpr c2) (lit 12)
    rw [if_neg c2]; refine sn (fun x => c2 ((e 11 (by omega)).mp x)) ?_
    by_cases d1 : tk k = 12
    · rw [if_neg (show ¬ tk k = 15 by omega), if_neg (show ¬ tk k = 16 by omega), if_neg (show ¬ tk k = 20 by omega), if_neg (show ¬ tk k = 21 by omega)]; exact sp ((e 12 (by omega)).mpr d1) bad
    refine sn (fun x => d1 ((e 12 (by omega)).mp x)) ?_
    by_cases d2 : tk k = 13
    · rw [if_neg (show ¬ tk k = 15 by omega), if_neg (show ¬ tk k = 16 by omega), if_neg (show ¬ tk k = 20 by omega), if_neg (show ¬ tk k = 21 by omega)]; exact sp ((e 13 (by omega)).mpr d2) bad
    refine sn (fun x => d2 ((e 13 (by omega)).mp x)) ?_
    by_cases d3 : tk k = 14
    · rw [if_neg (show ¬ tk k = 15 by omega), if_neg (show ¬ tk k = 16 by omega), if_neg (show ¬ tk k = 20 by omega), if_neg (show ¬ tk k = 21 by omega)]; exact sp ((e 14 (by omega)).mpr d3) bad
    refine sn (fun x => d3 ((e 14 (by omega)).mp x)) ?_
    by_cases c3 : tk k = 15
    · rw [if_pos c3]; exact sp ((e 15 (by omega)).mpr c3) (lit 0)
    rw [if_neg c3]; refine sn (fun x => c3 ((e 15 (by omega)).mp x)) ?_
    by_cases c4 : tk k = 16
    · rw [if_pos c4]; exact sp ((e 16 (by omega)).mpr c4) (lit 15)
    rw [if_neg c4]; refine sn (fun x => c4 ((e 16 (by omega)).mp x)) ?_
    by_cases d4 : tk k = 17
    · rw [if_neg (show ¬ tk k = 20 by omega), if_neg (show ¬ tk k = 21 by omega)]; exact sp ((e 17 (by omega)).mpr d4) bad
    refine sn (fun x => d4 ((e 17 (by omega)).mp x)) ?_
    by_cases d5 : tk k = 18
    · rw [if_neg (show ¬ tk k = 20 by omega), if_neg (show ¬ tk k = 21 by omega)]; exact sp ((e 18 (by omega)).mpr d5) bad
    refine sn (fun x => d5 ((e 18 (by omega)).mp x)) ?_
    by_cases d6 : tk k = 19
    · rw [if_neg (show ¬ tk k = 20 by omega), if_neg (show ¬ tk k = 21 by omega)]; exact sp ((e 19 (by omega)).mpr d6) bad
    refine sn (fun x => d6 ((e 19 (by omega)).mp x)) ?_
    by_cases c5 : tk k = 20
    · rw [if_pos c5]
      have hne : k ≠ c := fun x => by rw [x, ht.2.1] at c5; omega
      refine sp ((e 20 (by omega)).mpr c5) ?_
      by_cases c8 : 8 ≤ o
      · rw [if_pos c8]
        exact sp (le_y (a := 8) o c8 (by omega)) (sb (c_rft hc hy hk) rfl)
      · rw [if_neg c8]
        have ih := c_one hN ht d (o + 1) (by omega) (by omega) y (k + 1) hy (by omega)
        obtain ⟨a1, a2, a3, a4⟩ := p1_ro ht d (o + 1) (k + 1) (show k + 1 ≤ c by omega)
        refine sn (le_n (a := 8) o (by omega) (by omega)) (sb (a := if (p1 tk d (o + 1) (k + 1)).1 = true then rs y bg (true, 15 - (p1 tk d (o + 1) (k + 1)).2.1, (p1 tk d (o + 1) (k + 1)).2.2) else rs y bg (false, 0, (p1 tk d (o + 1) (k + 1)).2.2)) ?_ ?_)
        · unfold f_X7_readNot f_X7_readNot_0
          show (f_X7_readOne N d (ql_up (ql_up y.1 2 (fun _ => ii k)) 2 (fun _ => ii k + 1), y.2) (ii o + 1)).bind _ = _
          rw [up_up, lk_1, ii_add, ii_add]
          refine sb ih ?_
          by_cases q : (p1 tk d (o + 1) (k + 1)).1 = true
          · rw [if_pos q, rs_t q, rs_t rfl]
            refine sn (fun x => by have := (ii_eq_ni (show 1 < 2147483648 by omega) (show (p1 tk d (o + 1) (k + 1)).2.1 < 2147483648 by omega)).mp x; omega) ?_
            rw [lk_15, ii_sub (by omega)]
          · rw [if_neg q, rs_n q, rs_n (r := (false, 0, _)) (fun h => by cases h)]
            exact sp rfl rfl
        · by_cases q : (p1 tk d (o + 1) (k + 1)).1 = true
          · rw [if_pos q, if_pos q]
          · rw [if_neg q, if_neg q]
    rw [if_neg c5]; refine sn (fun x => c5 ((e 20 (by omega)).mp x)) ?_
    by_cases c6 : tk k = 21
    · rw [if_pos c6]
      have hne : k ≠ c := fun x => by rw [x, ht.2.1] at c6; omega
      refine sp ((e 21 (by omega)).mpr c6) ?_
      by_cases c8 : 8 ≤ o
      · rw [if_pos c8]
        exact sp (le_y (a := 8) o c8 (by omega)) (sb (c_rft hc hy hk) rfl)
      · rw [if_neg c8]
        have ih := c_one hN ht d (o + 1) (by omega) (by omega)
        have t8 := c_test8 (N := N) hN ht ih (fun k hk => p1_ro ht d (o + 1) k hk) y hy 300 0 N 0 15 (k + 1) (by omega) (by omega) (by omega) (by omega) (by omega)
        obtain ⟨a1, a2, a3, a4⟩ := pT_ro ht (r1 := p1 tk d) (o := o + 1) (fun k hk => p1_ro ht d (o + 1) k hk) 300 0 15 (k + 1) (by omega) (by omega) (Or.inr trivial)
        have tT : f_X7_readTest N (f_X7_readOne N d) (ql_up (ql_up y.1 2 (fun _ => ii k)) 2 (fun _ => ii k + 1), y.2) (ii (o + 1)) = some (rs y bg (pT tk (p1 tk d) (o + 1) 300 0 15 (k + 1))) := by
          rw [up_up, lk_1, ii_add]; exact t8
        refine sn (le_n (a := 8) o (by omega) (by omega)) (sb (a := if (pT tk (p1 tk d) (o + 1) 300 0 15 (k + 1)).1 = true then (if tk (pT tk (p1 tk d) (o + 1) 300 0 15 (k + 1)).2.2 = 22 then rs y bg (true, (pT tk (p1 tk d) (o + 1) 300 0 15 (k + 1)).2.1, (pT tk (p1 tk d) (o + 1) 300 0 15 (k + 1)).2.2 + 1) else rs y bg (false, 0, (pT tk (p1 tk d) (o + 1) 300 0 15 (k + 1)).2.2)) else rs y bg (false, 0, (pT tk (p1 tk d) (o + 1) 300 0 15 (k + 1)).2.2)) ?_ ?_)
        · unfold f_X7_readBrackets f_X7_readBrackets_0
          rw [show ii o + 1 = ii (o + 1) from by rw [lk_1, ii_add]]
          refine sb tT ?_
          by_cases q : (pT tk (p1 tk d) (o + 1) 300 0 15 (k + 1)).1 = true
          · rw [if_pos q, rs_t q]
            refine sn (fun x => by have := (ii_eq_ni (show 1 < 2147483648 by omega) (show (pT tk (p1 tk d) (o + 1) 300 0 15 (k + 1)).2.1 < 2147483648 by omega)).mp x; omega) ?_
            obtain ⟨g1, g2⟩ := c_tak (N := N) (y := (ql_up y.1 2 (fun _ => ii (pT tk (p1 tk d) (o + 1) 300 0 15 (k + 1)).2.2), y.2)) (w := 22) ht (cy_f hy rfl rfl) a2 rfl (by omega)
            by_cases q2 : tk (pT tk (p1 tk d) (o + 1) 300 0 15 (k + 1)).2.2 = 22
            · rw [if_pos q2, rs_t rfl]
              exact sb (g1 q2) (sn n10 (congrArg some (Prod.ext rfl (Prod.ext (up_up _ _ _ _) rfl))))
            · rw [if_neg q2, rs_n (r := (false, 0, _)) (fun h => by cases h)]
              exact sb (g2 q2) (sp rfl rfl)
          · rw [if_neg q, rs_n q, rs_n (r := (false, 0, _)) (fun h => by cases h)]
            exact sp rfl rfl
        · by_cases q : (pT tk (p1 tk d) (o + 1) 300 0 15 (k + 1)).1 = true
          · rw [if_pos q, if_pos q]
            by_cases q2 : tk (pT tk (p1 tk d) (o + 1) 300 0 15 (k + 1)).2.2 = 22
            · rw [if_pos q2, if_pos q2]
            · rw [if_neg q2, if_neg q2]
          · rw [if_neg q, if_neg q]
    rw [if_neg c6]; refine sn (fun x => c6 ((e 21 (by omega)).mp x)) bad
theorem pt_ro (ht : te_ok tk c) {o k : Nat} (hk : k ≤ c) : ro c k (pt tk o k) := by
  obtain ⟨a1, a2, a3, a4⟩ := pT_ro ht (r1 := p1 tk 10) (o := o) (fun k hk => p1_ro ht 10 o k hk) 300 0 15 k (by omega) hk (Or.inr trivial)
  exact ⟨a1, a2, a3, a4 (by omega)⟩
theorem c_test (hN : 1000 ≤ N) (ht : te_ok tk c) {y : ql_Y} (hy : cy y.1 tk bg c) {o k : Nat} (ho : o ≤ 8) (hk : k ≤ c) : f_X7_readTestC N (ql_up y.1 2 (fun _ => ii k), y.2) (ii o) = some (rs y bg (pt tk o k)) := by
  unfold f_X7_readTestC f_X7_readTest f_X7_readTest_0
  exact c_test8 (N := N) hN ht (c_one hN ht 10 o ho (by omega)) (fun k hk => p1_ro ht 10 o k hk) y hy 300 0 N 0 15 k (by omega) (by omega) (by omega) (by omega) hk
end
