/-! the reference's search: acts, the queue, the end -/
section
variable {N : Nat} {n1 n2 i1 i2 : Nat} {T1 T2 : pw_T} {A1 A2 : Nat → Nat} {w : Bool} {z0 : ql_Z}
theorem mx_skip {z : ql_Z} {y k b : Nat} (hf : fg (y / 18) (b + 1) A1 = ii 0 ∧ fg (y % 18) (b + 1) A2 = ii 0) (h : mx T1 T2 A1 A2 w z0 z y k (4 * b)) : mx T1 T2 A1 A2 w z0 z y k (4 * (b + 1)) := by
  have no : ∀ {T : pw_T} {A : Nat → Nat} {u a : Nat}, fg u (b + 1) A = ii 0 → nx T A u (b + 1) a = none := fun {T A u a} q => by
    unfold fg at q; unfold nx
    by_cases c : 2 ≤ u ∧ A (u - 1) = b + 1
    · rw [if_pos c] at q; exact absurd q n10
    · rw [if_neg c]
  have one : ∀ a, a < 4 → st_m T1 T2 A1 A2 y (4 * b + a) = none := fun a ha => by
    unfold st_m
    rw [show (4 * b + a) / 4 = b by omega, show (4 * b + a) % 4 = a by omega, no hf.1, no hf.2]; rfl
  obtain ⟨q, lv, nm, dg, c, h, hk, rfl, hq⟩ := h
  have b0 := h.2.2.2.2.2
  have b1 := bi_skip b0 hk (fun y e => by rw [show 4 * b = 4 * b + 0 by omega, one 0 (by omega)] at e; cases e)
  have b2 := bi_skip b1 hk (fun y e => by rw [one 1 (by omega)] at e; cases e)
  have b3 := bi_skip b2 hk (fun y e => by rw [show 4 * b + 1 + 1 = 4 * b + 2 by omega, one 2 (by omega)] at e; cases e)
  have b4 := bi_skip b3 hk (fun y e => by rw [show 4 * b + 1 + 1 + 1 = 4 * b + 3 by omega, one 3 (by omega)] at e; cases e)
  exact ⟨q, lv, nm, dg, c, ⟨h.1, h.2.1, h.2.2.1, h.2.2.2.1, h.2.2.2.2.1, b4⟩, hk, rfl, hq⟩
theorem m_pa195 {z : ql_Z} {y k b : Nat} {x3 : Int32} {k71 : ql_Z → Int32 → Int32 → Int32 → Int32 → Option (Int32 × ql_Z)} {k138 : ql_Z → Int32 → Int32 → Int32 → Int32 → Int32 → Int32 → Int32 → Option (Int32 × ql_Z)} (hN : 1000 ≤ N) (p1 : mp z0 i1 n1 T1 A1) (p2 : mp z0 i2 n2 T2 A2) (h1 : i1 < 4) (h2 : i2 < 4) (hb : b < 3) (h : mx T1 T2 A1 A2 w z0 z y k (4 * b)) :
    ∃ z', mx T1 T2 A1 A2 w z0 z' y k (4 * (b + 1)) ∧ f_X11_parts_195 N k71 k138 N z (ii i1) (ii i2) x3 (ii k) (em (de (y / 18))) (em (de (y % 18))) (ii (b + 1)) (fg (y / 18) (b + 1) A1) (fg (y % 18) (b + 1) A2) (ii 0) = k138 z' (ii i1) (ii i2) x3 (ii k) (em (de (y / 18))) (em (de (y % 18))) (ii (b + 2)) := by
  by_cases hf : fg (y / 18) (b + 1) A1 = ii 0 ∧ fg (y % 18) (b + 1) A2 = ii 0
  · refine ⟨z, mx_skip hf h, ?_⟩
    obtain ⟨j, hj⟩ : ∃ j, N = j + 1 := ⟨N - 1, by omega⟩
    have e : ∀ x5 x6 x7 x8 x9 x10, f_X11_parts_195 N k71 k138 N z (ii i1) (ii i2) x3 (ii k) x5 x6 x7 x8 x9 x10 = f_X11_parts_195 N k71 k138 (j + 1) z (ii i1) (ii i2) x3 (ii k) x5 x6 x7 x8 x9 x10 := fun _ _ _ _ _ _ => by rw [← hj]
    rw [e, f_X11_parts_195, lk_4, lk_0]
    refine sn (by rw [ii_le (by omega) (by omega)]; omega) (sp hf.1 (sp hf.2 ?_))
    unfold f_X11_parts_268
    rw [lk_1, ii_add]
  · obtain ⟨j, hj⟩ : ∃ j, N = j + 5 := ⟨N - 5, by omega⟩
    have e : ∀ x5 x6 x7 x8 x9 x10, f_X11_parts_195 N k71 k138 N z (ii i1) (ii i2) x3 (ii k) x5 x6 x7 x8 x9 x10 = f_X11_parts_195 N k71 k138 (j + 5) z (ii i1) (ii i2) x3 (ii k) x5 x6 x7 x8 x9 x10 := fun _ _ _ _ _ _ => by rw [← hj]
    obtain ⟨z1, g1, f1⟩ := m_pa195s (N := N) (m := j + 4) (a := 0) (x3 := x3) (k71 := k71) (k138 := k138) p1 p2 h1 h2 (by omega) hb hf h
    obtain ⟨z2, g2, f2⟩ := m_pa195s (N := N) (m := j + 3) (a := 1) (x3 := x3) (k71 := k71) (k138 := k138) p1 p2 h1 h2 (by omega) hb hf g1
    obtain ⟨z3, g3, f3⟩ := m_pa195s (N := N) (m := j + 2) (a := 2) (x3 := x3) (k71 := k71) (k138 := k138) p1 p2 h1 h2 (by omega) hb hf g2
    obtain ⟨z4, g4, f4⟩ := m_pa195s (N := N) (m := j + 1) (a := 3) (x3 := x3) (k71 := k71) (k138 := k138) p1 p2 h1 h2 (by omega) hb hf g3
    refine ⟨z4, g4, ?_⟩
    rw [e, f1, f2, f3, f4, f_X11_parts_195, lk_4, lk_0]
    refine sp (by rw [ii_le (by omega) (by omega)]; omega) ?_
    unfold f_X11_parts_268
    rw [lk_1, ii_add]
theorem m_fl {z : ql_Z} {i n u b : Nat} {T : pw_T} {A : Nat → Nat} (p : mp z i n T A) (hi : i < 4) (hu : u ≤ n + 1) (hb : b < 100) {β : Type} (X : Int32 → Option β) :
    (if em (de u) ≤ ii 0 then X (ii 0) else (f_X11_actOf N z (ii i) (em (de u))).bind fun v => if v = ii b then X (ii 1) else X (ii 0)) = X (fg u b A) := by
  have hn := p.1.1
  unfold fg
  by_cases q : 2 ≤ u
  · have ha := p.1.2.2 (u - 1) (by omega) (by omega)
    rw [if_neg (fun x => by have := (de_le u (by omega)).mp x; omega), de_s q, m_actOf p.2.2 hi hn (by omega) (by omega), bd_s]
    have e : ii (A (u - 1)) = ii b ↔ A (u - 1) = b := ii_eq (by omega) (by omega)
    by_cases c : A (u - 1) = b
    · rw [if_pos (e.mpr c), if_pos ⟨q, c⟩]
    · rw [if_neg (fun x => c (e.mp x)), if_neg (fun x => c x.2)]
  · rw [if_pos ((de_le u (by omega)).mpr (by omega)), if_neg (fun x => q x.1)]
theorem m_pa138s {z : ql_Z} {y k b m : Nat} {x3 : Int32} {k71 : ql_Z → Int32 → Int32 → Int32 → Int32 → Option (Int32 × ql_Z)} (hN : 1000 ≤ N) (p1 : mp z0 i1 n1 T1 A1) (p2 : mp z0 i2 n2 T2 A2) (h1 : i1 < 4) (h2 : i2 < 4) (hb : b < 3) (h : mx T1 T2 A1 A2 w z0 z y k (4 * b)) :
    ∃ z', mx T1 T2 A1 A2 w z0 z' y k (4 * (b + 1)) ∧ f_X11_parts_138 N k71 (m + 1) z (ii i1) (ii i2) x3 (ii k) (em (de (y / 18))) (em (de (y % 18))) (ii (b + 1)) = f_X11_parts_138 N k71 m z' (ii i1) (ii i2) x3 (ii k) (em (de (y / 18))) (em (de (y % 18))) (ii (b + 2)) := by
  obtain ⟨f0, hk⟩ := mx_f h
  obtain ⟨b1, b2⟩ := mx_b p1.1 p2.1 h
  obtain ⟨z', h', f⟩ := m_pa195 (N := N) (x3 := x3) (k71 := k71) (k138 := f_X11_parts_138 N k71 m) hN p1 p2 h1 h2 hb h
  refine ⟨z', h', ?_⟩
  rw [← f, f_X11_parts_138, lk_4, lk_0]
  refine sn (by rw [ii_le (by omega) (by omega)]; omega) ?_
  have t1 := m_fl (N := N) (b := b + 1) (mp_f p1 f0) h1 b1 (by omega) (fun u => f_X11_parts_166 N k71 (f_X11_parts_138 N k71 m) z (ii i1) (ii i2) x3 (ii k) (em (de (y / 18))) (em (de (y % 18))) (ii (b + 1)) u)
  have t2 := m_fl (N := N) (b := b + 1) (mp_f p2 f0) h2 b2 (by omega) (fun u => f_X11_parts_190 N k71 (f_X11_parts_138 N k71 m) z (ii i1) (ii i2) x3 (ii k) (em (de (y / 18))) (em (de (y % 18))) (ii (b + 1)) (fg (y / 18) (b + 1) A1) u)
  unfold f_X11_parts_165
  rw [lk_1, lk_0, t1]
  unfold f_X11_parts_166 f_X11_parts_189
  rw [lk_1, lk_0, t2]
  unfold f_X11_parts_190
  rw [lk_0]
theorem m_pa135 {z : ql_Z} {y k : Nat} {x3 : Int32} {k71 : ql_Z → Int32 → Int32 → Int32 → Int32 → Option (Int32 × ql_Z)} (hN : 1000 ≤ N) (p1 : mp z0 i1 n1 T1 A1) (p2 : mp z0 i2 n2 T2 A2) (h1 : i1 < 4) (h2 : i2 < 4) (h : mx T1 T2 A1 A2 w z0 z y k 0) :
    ∃ z', mx T1 T2 A1 A2 w z0 z' y k 12 ∧ f_X11_parts_135 N k71 z (ii i1) (ii i2) x3 (ii k) (em (de (y / 18))) (em (de (y % 18))) = k71 z' (ii i1) (ii i2) x3 (ii (k + 1)) := by
  obtain ⟨j, hj⟩ : ∃ j, N = j + 4 := ⟨N - 4, by omega⟩
  obtain ⟨z1, g1, f1⟩ := m_pa138s (N := N) (m := j + 3) (b := 0) (x3 := x3) (k71 := k71) hN p1 p2 h1 h2 (by omega) h
  obtain ⟨z2, g2, f2⟩ := m_pa138s (N := N) (m := j + 2) (b := 1) (x3 := x3) (k71 := k71) hN p1 p2 h1 h2 (by omega) g1
  obtain ⟨z3, g3, f3⟩ := m_pa138s (N := N) (m := j + 1) (b := 2) (x3 := x3) (k71 := k71) hN p1 p2 h1 h2 (by omega) g2
  refine ⟨z3, g3, ?_⟩
  have hk := (mx_f h).2
  unfold f_X11_parts_135
  have e : f_X11_parts_138 N k71 N z (ii i1) (ii i2) x3 (ii k) (em (de (y / 18))) (em (de (y % 18))) 1 = f_X11_parts_138 N k71 (j + 4) z (ii i1) (ii i2) x3 (ii k) (em (de (y / 18))) (em (de (y % 18))) (ii (0 + 1)) := by rw [← hj]; rfl
  rw [e, f1, f2, f3, f_X11_parts_138, lk_4, lk_1]
  refine sp (by rw [ii_le (by omega) (by omega)]; omega) ?_
  rw [ii_add]
def mf (w : Bool) : Int32 := if w = true then ii 0 else ii 1
def m_res (T1 T2 : pw_T) (A1 A2 : Nat → Nat) (w : Bool) (z0 : ql_Z) (r : Int32) (z : ql_Z) : Prop :=
  ((∀ s, s < 26 → z.1 s = z0.1 s) ∧ z.2 = z0.2) ∧ ((r = -ii 1 ∧ sp_no T1 T2 A1 A2 w) ∨ ∃ q lv nm dg c k, mi 4 (ini_m T1 T2) (st_m T1 T2 A1 A2) z0 z q lv nm dg c k 0 ∧ k < c ∧ r = ii k ∧ sp_at T1 T2 A1 A2 w (lv k) (nm k))
theorem m_pa71 (hN : 1000 ≤ N) (p1 : mp z0 i1 n1 T1 A1) (p2 : mp z0 i2 n2 T2 A2) (h1 : i1 < 4) (h2 : i2 < 4) : ∀ j k m z, k + j = 324 → j + 1 ≤ m →
    (∃ q lv nm dg c, mi 4 (ini_m T1 T2) (st_m T1 T2 A1 A2) z0 z q lv nm dg c k 0 ∧ ∀ j, j < k → ¬ te w (q j)) →
    ∃ r z', f_X11_parts_71 N m z (ii i1) (ii i2) (mf w) (ii k) = some (r, z') ∧ m_res T1 T2 A1 A2 w z0 r z' := by
  have done : ∀ k m z, (∃ q lv nm dg, mi 4 (ini_m T1 T2) (st_m T1 T2 A1 A2) z0 z q lv nm dg k k 0 ∧ ∀ j, j < k → ¬ te w (q j)) → ∃ r z', f_X11_parts_71 N (m + 1) z (ii i1) (ii i2) (mf w) (ii k) = some (r, z') ∧ m_res T1 T2 A1 A2 w z0 r z' := by
    rintro k m z ⟨q, lv, nm, dg, h, hq⟩
    have hc := bi_c h.2.2.2.2.2
    refine ⟨-ii 1, z, ?_, ⟨h.1, h.2.1⟩, Or.inl ⟨rfl, fun n x y h1 h2 => ?_⟩⟩
    · rw [f_X11_parts_71, h.2.2.1, lk_1]
      exact sp (by rw [ii_le (by omega) (by omega)]; omega) rfl
    · obtain ⟨i, hi, e⟩ := bi_end h.2.2.2.2.2 n x y h1
      subst e
      exact hq i hi h2
  intro j
  induction j with
  | zero =>
    rintro k m z hj hm ⟨q, lv, nm, dg, c, h, hq⟩
    obtain ⟨m, rfl⟩ : ∃ j, m = j + 1 := ⟨m - 1, by omega⟩
    have hc := bi_c h.2.2.2.2.2
    have hkc := h.2.2.2.2.2.2.2.2.2.2.1
    obtain rfl : k = c := by omega
    exact done k m z ⟨q, lv, nm, dg, h, hq⟩
  | succ j ih =>
    rintro k m z hj hm ⟨q, lv, nm, dg, c, h, hq⟩
    obtain ⟨m, rfl⟩ : ∃ j, m = j + 1 := ⟨m - 1, by omega⟩
    have b := h.2.2.2.2.2
    have hc := bi_c b
    have hkc := b.2.2.2.2.2.1
    by_cases e : k = c
    · subst e
      exact done k m z ⟨q, lv, nm, dg, h, hq⟩
    · have hk : k < c := by omega
      have hqk := (b.1 k hk).2
      have e26 : z.1 26 (ii k).toNatClampNeg = ii (q k) := by rw [ii_nat (by omega)]; exact (h.2.2.2.1 k hk).1
      have eu : (ii (q k) / ii 18) - ii 1 = em (de (q k / 18)) := by rw [ii_div (by omega) (by omega), em_de]
      have ev : (ii (q k) - ii (q k) / ii 18 * ii 18) - ii 1 = em (de (q k % 18)) := by
        rw [ii_div (by omega) (by omega), ii_mul, ii_sub (by omega), show q k - q k / 18 * 18 = q k % 18 by omega, em_de]
      have du := de_0 (q k / 18) (by omega)
      have dv := de_0 (q k % 18) (by omega)
      have key : f_X11_parts_71 N (m + 1) z (ii i1) (ii i2) (mf w) (ii k) = if (q k / 18 = 1 ∧ q k % 18 ≠ 1) ∨ (w = true ∧ q k % 18 = 1 ∧ q k / 18 ≠ 1) then some (ii k, z) else f_X11_parts_135 N (f_X11_parts_71 N m) z (ii i1) (ii i2) (mf w) (ii k) (em (de (q k / 18))) (em (de (q k % 18))) := by
        rw [f_X11_parts_71, h.2.2.1, e26, lk_18, lk_1, lk_0]
        refine sn (by rw [ii_le (by omega) (by omega)]; omega) (sp (ii_ib (by omega) (by omega)) (sp (ii_ib (by omega) (by omega)) ?_))
        rw [eu, ev]
        unfold f_X11_parts_118 f_X11_parts_132
        rw [lk_0]
        simp only [du, dv]
        by_cases q1 : q k / 18 = 1
        · by_cases q2 : q k % 18 = 1
          · simp only [q1, q2, if_true, ne_eq, not_true, and_false, or_self, if_false, ite_self]
          · simp only [q1, q2, if_true, if_false, ne_eq, not_false_eq_true, and_self, true_or]
        · by_cases q2 : q k % 18 = 1
          · simp only [q1, q2, if_true, if_false, ne_eq, not_false_eq_true, and_self, false_and, false_or, and_true]
            cases w with
            | true => rw [if_pos (show mf true = ii 0 from rfl), if_pos rfl]
            | false => rw [if_neg (show ¬ mf false = ii 0 from n10), if_neg (by decide)]
          · simp only [q1, q2, if_false, ite_self, false_and, and_false, or_self]
      rw [key]
      by_cases t : te w (q k)
      · rw [if_pos (show (q k / 18 = 1 ∧ q k % 18 ≠ 1) ∨ (w = true ∧ q k % 18 = 1 ∧ q k / 18 ≠ 1) from t)]
        refine ⟨ii k, z, rfl, ⟨h.1, h.2.1⟩, Or.inr ⟨q, lv, nm, dg, c, k, h, hk, rfl, ⟨q k, (b.1 k hk).1, t⟩, fun n' x' y' g1 g2 => ?_⟩⟩
        by_cases o : o2 n' x' (lv k) (nm k)
        · obtain ⟨i, hi, e, _⟩ := bi_ahead b hk n' x' y' g1 o
          subst e
          exact absurd g2 (hq i hi)
        · unfold o2 at o; unfold o3; omega
      · rw [if_neg (show ¬ ((q k / 18 = 1 ∧ q k % 18 ≠ 1) ∨ (w = true ∧ q k % 18 = 1 ∧ q k / 18 ≠ 1)) from t)]
        obtain ⟨z', ⟨q', lv', nm', dg', c', h', hk', hy', hq'⟩, f⟩ := m_pa135 (N := N) (w := w) (x3 := mf w) (k71 := f_X11_parts_71 N m) hN p1 p2 h1 h2 ⟨q, lv, nm, dg, c, h, hk, rfl, fun j hj => by
          by_cases e : j = k
          · subst e; exact t
          · exact hq j (by omega)⟩
        rw [f]
        exact ih (k + 1) m z' (by omega) (by omega) ⟨q', lv', nm', dg', c', ⟨h'.1, h'.2.1, h'.2.2.1, h'.2.2.2.1, h'.2.2.2.2.1, bi_next h'.2.2.2.2.2 hk'⟩, fun j hj => hq' j (by omega)⟩
theorem m_pa33 (hN : 1000 ≤ N) (p1 : mp z0 i1 n1 T1 A1) (p2 : mp z0 i2 n2 T2 A2) (h1 : i1 < 4) (h2 : i2 < 4) : ∀ j a m z, a + j = 4 → j + 1 ≤ m →
    (∃ q lv nm dg c, mi a (ini_m T1 T2) (st_m T1 T2 A1 A2) z0 z q lv nm dg c 0 0 ∧ ∀ j, j < c → lv j = 0) →
    ∃ r z', f_X11_parts_33 N m z (ii i1) (ii i2) (mf w) (ii a) = some (r, z') ∧ m_res T1 T2 A1 A2 w z0 r z' := by
  intro j
  induction j with
  | zero =>
    rintro a m z hj hm ⟨q, lv, nm, dg, c, h, h0⟩
    obtain ⟨m, rfl⟩ : ∃ j, m = j + 1 := ⟨m - 1, by omega⟩
    obtain rfl : a = 4 := by omega
    rw [f_X11_parts_33, lk_4, lk_0, if_pos (by rw [ii_le (by omega) (by omega)]; omega)]
    exact m_pa71 hN p1 p2 h1 h2 324 0 N z (by omega) (by omega) ⟨q, lv, nm, dg, c, h, fun j hj => by omega⟩
  | succ j ih =>
    rintro a m z hj hm ⟨q, lv, nm, dg, c, h, h0⟩
    obtain ⟨m, rfl⟩ : ∃ j, m = j + 1 := ⟨m - 1, by omega⟩
    have ha : a < 4 := by omega
    have l1 := p1.1.1
    have l2 := p2.1.1
    have e1 := en_le (n := n1) (o := T1 0 a) (fun v hv => p1.1.2.1 0 a v (by omega) ha hv)
    have e2 := en_le (n := n2) (o := T2 0 a) (fun v hv => p2.1.2.1 0 a v (by omega) ha hv)
    obtain ⟨z', q', lv', nm', dg', c', f, h', h0'⟩ := m_root (N := N) (o1 := T1 0 a) (o2 := T2 0 a) h h0 (by omega) (by omega) rfl
    have g1 := m_to (N := N) (z := z) (p := 0) (mp_f p1 h.1).2.1 h1 l1 (by omega) ha
    have g2 := m_to (N := N) (z := z) (p := 0) (mp_f p2 h.1).2.1 h2 l2 (by omega) ha
    rw [f_X11_parts_33, lk_4, lk_0, lk_1, if_neg (by rw [ii_le (by omega) (by omega)]; omega), g1, bd_s, g2, bd_s, f, bd_s, ii_add]
    exact ih (a + 1) m z' (by omega) (by omega) ⟨q', lv', nm', dg', c', h', h0'⟩
theorem m_pa3 {z : ql_Z} {x1 x2 x3 : Int32} {L : Nat → Int32} : ∀ j p m, p + j = 324 → j + 1 ≤ m →
    f_X11_parts_3 N m (ql_up z.1 30 (zr p L), z.2) x1 x2 x3 (ii p) = f_X11_parts_33 N N (ql_up (ql_up z.1 30 (zr 324 L)) 31 (fun _ => ii 0), z.2) x1 x2 x3 (ii 0)
  | 0, p, m, hp, hm => by
    obtain ⟨m, rfl⟩ : ∃ j, m = j + 1 := ⟨m - 1, by omega⟩
    obtain rfl : p = 324 := by omega
    rw [f_X11_parts_3, lk_324, lk_0, if_pos (by rw [ii_le (by omega) (by omega)]; omega)]
  | j + 1, p, m, hp, hm => by
    obtain ⟨m, rfl⟩ : ∃ j, m = j + 1 := ⟨m - 1, by omega⟩
    rw [f_X11_parts_3, lk_324, lk_0, lk_1, nb_0]
    refine sn (by rw [ii_le (by omega) (by omega)]; omega) (sp (ii_ib (by omega) (by omega)) ?_)
    rw [ii_nat (by omega), ii_add]
    have e : (ql_up (ql_up z.1 30 (zr p L), z.2).1 30 (upd ((ql_up z.1 30 (zr p L), z.2).1 30) p (ii 0)), (ql_up z.1 30 (zr p L), z.2).2) = (ql_up z.1 30 (zr (p + 1) L), z.2) := by
      show (ql_up (ql_up z.1 30 (zr p L)) 30 (upd (ql_up z.1 30 (zr p L) 30) p (ii 0)), z.2) = _
      rw [up_up, up_same, zr_s]
    rw [e]
    exact m_pa3 j (p + 1) m (by omega) (by omega)
theorem m_parts {z : ql_Z} (hN : 1000 ≤ N) (p1 : mp z i1 n1 T1 A1) (p2 : mp z i2 n2 T2 A2) (h1 : i1 < 4) (h2 : i2 < 4) : ∃ r z', f_X11_parts N z (ii i1) (ii i2) (mf w) = some (r, z') ∧ m_res T1 T2 A1 A2 w z r z' := by
  unfold f_X11_parts f_X11_parts_0
  have q := m_pa3 (N := N) (z := z) (x1 := ii i1) (x2 := ii i2) (x3 := mf w) (L := z.1 30) 324 0 N (by omega) (by omega)
  rw [zr_0, up_self] at q
  rw [lk_0, q]
  refine m_pa33 hN p1 p2 h1 h2 4 0 N _ (by omega) (by omega) ⟨fun _ => 0, fun _ => 0, fun _ => 0, fun _ => 0, 0, ⟨fun s hs => ?_, rfl, ?_, fun j hj => by omega, fun y hy => ?_, ?_⟩, fun j hj => by omega⟩
  · show (ql_up (ql_up z.1 30 (zr 324 (z.1 30))) 31 (fun _ => ii 0)) s = z.1 s
    rw [up_ne (by omega), up_ne (by omega)]
  · show (ql_up (ql_up z.1 30 (zr 324 (z.1 30))) 31 (fun _ => ii 0)) 31 0 = ii 0
    rw [up_same]
  · show (ql_up (ql_up z.1 30 (zr 324 (z.1 30))) 31 (fun _ => ii 0)) 30 y = ii 0 ↔ _
    rw [up_ne (by omega), up_same, zr_in hy]
    exact ⟨fun _ ⟨j, hj, _⟩ => by omega, fun _ => rfl⟩
  · refine ⟨fun j hj => by omega, fun i j h1 h2 => by omega, fun x y hx => by omega, fun j e y hj => by omega, ?_, by omega, fun j hj => by omega⟩
    rw [ct_same (S := bm (fun _ => 0) 0) (S' := fun _ => False) (fun p _ => ⟨fun ⟨j, hj, _⟩ => by omega, False.elim⟩), ct_f]
/-- the row's number out of the digits -/
theorem m_ap58 {ini : Nat → Option Nat} {st : Nat → Nat → Option Nat} {z : ql_Z} {q lv nm dg : Nat → Nat} {c k d : Nat} (h : mi 4 ini st z0 z q lv nm dg c k d) : ∀ j m X W, j < c → j + 2 ≤ m → f_X11_apart_58 N m z X (ll W) (ii j) = some (X + ll (W * nm j), z) := by
  intro j
  induction j using Nat.strongRecOn with
  | ind j ih =>
    intro m X W hj hm
    obtain ⟨m, rfl⟩ : ∃ j, m = j + 1 := ⟨m - 1, by omega⟩
    have hc := bi_c h.2.2.2.2.2
    obtain ⟨a1, a2, a3, a4, a5⟩ := h.2.2.2.1 j hj
    rw [f_X11_apart_58, lk_0, ii_nat (by omega), a2, ii_ll (by omega), ll_12, ll_mul, ll_mul]
    refine sn (by rw [ii_lt (by omega) (by omega)]; omega) (sp (ii_ib (by omega) (by omega)) (sp (ii_ib (by omega) (by omega)) ?_))
    rcases a5 with ⟨b1, b2⟩ | ⟨i, hi, b1, b2⟩
    · obtain ⟨m, rfl⟩ : ∃ j, m = j + 1 := ⟨m - 1, by omega⟩
      rw [b1, f_X11_apart_58, lk_0]
      refine sp (by rw [ni_lt_ii (by omega) (by omega)]; omega) ?_
      rw [b2]
    · rw [b1, ih i hi m _ _ (by omega) (by omega), Int64.add_assoc, ll_add, b2, Nat.mul_add, Nat.add_comm, ← Nat.mul_assoc]
end
