/-! the reference's reading of tests: ONE, BOTHS, all of it -/
section
variable {N L c : Nat} {b tk bg nx : Nat → Nat}
theorem pe_f {z z' : ql_Z} {vb wb n any both : Nat} (h : pe z vb wb n any both) (f : ft z z' (vb + n) (wb + n)) : pe z' vb wb n any both := by
  rcases h with ⟨rfl, h1, h2⟩ | ⟨rfl, h1, h2, h3⟩ | ⟨rfl, h1, h2, h3⟩ | ⟨rfl, h1, h2, h3, h4⟩
  · exact Or.inl ⟨rfl, h1, h2⟩
  · exact Or.inr (Or.inl ⟨rfl, h1, (f.2.2.1 _ (by omega)).trans h2, (f.2.2.2 _ (by omega)).trans h3⟩)
  · exact Or.inr (Or.inr (Or.inl ⟨rfl, h1, (f.2.2.1 _ (by omega)).trans h2, (f.2.2.2 _ (by omega)).trans h3⟩))
  · exact Or.inr (Or.inr (Or.inr ⟨rfl, (f.2.2.1 _ (by omega)).trans h1, (f.2.2.1 _ (by omega)).trans h2, (f.2.2.2 _ (by omega)).trans h3, (f.2.2.2 _ (by omega)).trans h4⟩))
theorem bs_f {z z' : ql_Z} {wb v w : Nat} (h : bs z wb) (f : ft z z' v w) (hw : wb ≤ w) : bs z' wb := by
  by_cases c : wb = 0
  · exact Or.inl c
  · rcases h with h | h
    · exact Or.inl h
    · exact Or.inr ((f.2.2.2 _ (by omega)).trans h)
/-- nothing but sums and products on top of a bracket: no NOT -/
theorem pe_22 {z : ql_Z} {vb wb n any both : Nat} (h : pe z vb wb n any both) (hb : bs z wb) : wb + n = 0 ∨ z.1 18 (wb + n - 1) ≠ ii 22 := by
  have ne : ∀ o, o < 100 → o ≠ 22 → ii o ≠ ii 22 := fun o h1 h2 x => h2 ((ii_eq (by omega) (by omega)).mp x)
  rcases h with ⟨rfl, _, _⟩ | ⟨rfl, _, _, h3⟩ | ⟨rfl, _, _, h3⟩ | ⟨rfl, _, _, _, h4⟩
  · rcases hb with hb | hb
    · exact Or.inl hb
    · exact Or.inr (by rw [Nat.add_zero, hb]; exact ne 23 (by omega) (by omega))
  · exact Or.inr (by rw [show wb + 1 - 1 = wb by omega, h3]; exact ne 21 (by omega) (by omega))
  · exact Or.inr (by rw [show wb + 1 - 1 = wb by omega, h3]; exact ne 20 (by omega) (by omega))
  · exact Or.inr (by rw [show wb + 2 - 1 = wb + 1 by omega, h4]; exact ne 21 (by omega) (by omega))
def m1ok (N L c : Nat) (b tk bg nx : Nat → Nat) (q1 : Nat → Nat → Bool × Nat × Nat) (o : Nat) : Prop :=
  ∀ k z vm w0 j m, k ≤ c → j ≤ o → tq b L tk bg nx z k vm (w0 + j) o → (∀ q, w0 ≤ q → q < w0 + j → z.1 18 q = ii 22) → (w0 = 0 ∨ z.1 18 (w0 - 1) ≠ ii 22) → vm ≤ k → w0 + j ≤ k → c + 1 ≤ m + k →
    ((q1 o k).1 = true → ∃ z' m', f_X11_test_12 N m z (ii 1) = f_X11_test_12 N m' z' (ii 0) ∧ m' + (q1 o k).2.2 = m + k ∧ tq b L tk bg nx z' (q1 o k).2.2 (vm + 1) w0 (o - j) ∧ z'.1 17 vm = ii (nt j (q1 o k).2.1) ∧ ft z z' vm w0) ∧
    (¬ (q1 o k).1 = true → ∃ z', f_X11_test_12 N m z (ii 1) = some (-ii 1, z') ∧ z'.1 16 0 = ii (bg (q1 o k).2.2) ∧ ft z z' 0 0)
def mTgo (N L : Nat) (b tk bg nx : Nat → Nat) (z : ql_Z) (m k vb wb o : Nat) (r : Bool × Nat × Nat) : Prop :=
  (r.1 = true → ∃ z' m' n any both x, f_X11_test_12 N m z (ii 1) = f_X11_test_12 N m' z' (ii 0) ∧ m' + r.2.2 = m + k ∧ tq b L tk bg nx z' r.2.2 (vb + n + 1) (wb + n) o ∧ pe z' vb wb n any both ∧ bs z' wb ∧ z'.1 17 (vb + n) = ii x ∧ any < 16 ∧ both < 16 ∧ x < 16 ∧ r.2.1 = any ||| (both &&& x) ∧ tk r.2.2 ≠ 19 ∧ tk r.2.2 ≠ 18 ∧ ft z z' vb wb ∧ vb + n + 1 ≤ r.2.2 ∧ wb + n ≤ r.2.2) ∧
  (¬ r.1 = true → ∃ z', f_X11_test_12 N m z (ii 1) = some (-ii 1, z') ∧ z'.1 16 0 = ii (bg r.2.2) ∧ ft z z' 0 0)
theorem mT_pre {z z1 : ql_Z} {m m1 k k1 vb wb o : Nat} {r : Bool × Nat × Nat} (e : f_X11_test_12 N m z (ii 1) = f_X11_test_12 N m1 z1 (ii 1)) (hm : m1 + k1 = m + k) (f : ft z z1 vb wb) (h : mTgo N L b tk bg nx z1 m1 k1 vb wb o r) : mTgo N L b tk bg nx z m k vb wb o r := by
  refine ⟨fun hr => ?_, fun hr => ?_⟩
  · obtain ⟨z', m', n, any, both, x, a1, a2, a3, a4, a5, a6, a7, a8, a9, a10, a11, a12, a13, a14⟩ := h.1 hr
    exact ⟨z', m', n, any, both, x, e.trans a1, by omega, a3, a4, a5, a6, a7, a8, a9, a10, a11, a12, ft_t f a13 (Nat.le_refl _) (Nat.le_refl _), a14⟩
  · obtain ⟨z', a1, a2, a3⟩ := h.2 hr
    exact ⟨z', e.trans a1, a2, ft_t (ft_l f (Nat.zero_le _) (Nat.zero_le _)) a3 (Nat.le_refl _) (Nat.le_refl _)⟩
theorem m_T (hN : 1000 ≤ N) (ht : ts b L tk bg nx c) (hk0 : te_ok tk c) {q1 : Nat → Nat → Bool × Nat × Nat} {o vb wb : Nat} (h1 : m1ok N L c b tk bg nx q1 o) (hro : ∀ k, k ≤ c → ro c k (q1 o k)) :
    ∀ f any both k z n m, 301 ≤ f + k → k ≤ c → tq b L tk bg nx z k (vb + n) (wb + n) o → pe z vb wb n any both → bs z wb → vb + n ≤ k → wb + n ≤ k → c + 1 ≤ m + k → any < 16 → both < 16 → mTgo N L b tk bg nx z m k vb wb o (pT tk q1 o f any both k) := by
  have hc := hk0.1
  intro f
  induction f with
  | zero => intro any both k z n m hf hk; omega
  | succ f ih =>
    intro any both k z n m hf hk h hp hb hv hw hm a16 b16
    obtain ⟨r1, r2, r3, r4⟩ := hro k hk
    obtain ⟨g1, g2⟩ := h1 k z (vb + n) (wb + n) 0 m hk (Nat.zero_le _) h (fun q h1 h2 => by omega) (pe_22 hp hb) hv hw hm
    rw [pT]
    by_cases c1 : (q1 o k).1 = true
    · rw [if_pos c1]
      have r4 := r4 c1
      obtain ⟨z1, m1, e1, hm1, t1, v1, f1⟩ := g1 c1
      rw [Nat.sub_zero] at t1
      have v1 : z1.1 17 (vb + n) = ii (q1 o k).2.1 := v1
      have p1' := pe_f hp f1
      have hb1 := bs_f hb f1 (show wb ≤ wb + n by omega)
      have h25 := hk0.2.2 (q1 o k).2.2
      have n2 : n ≤ 2 := by rcases hp with ⟨h, _⟩ | ⟨h, _⟩ | ⟨h, _⟩ | ⟨h, _⟩ <;> omega
      have f1' : ft z z1 vb wb := ft_l f1 (by omega) (by omega)
      have e15 := t1.2.2.1
      obtain ⟨m2, hm2⟩ : ∃ j, m1 = j + 1 := ⟨m1 - 1, by omega⟩
      subst hm2
      by_cases c2 : tk (q1 o k).2.2 = 19
      · rw [if_pos c2]
        have hne : (q1 o k).2.2 ≠ c := fun x => by rw [x, hk0.2.1] at c2; omega
        have e21 : ii (mt (tk (q1 o k).2.2)) = ii 21 := (mt_eq h25 (by omega) (by omega)).mpr c2
        obtain ⟨z2, n', hn1, hn2, e2, t2, v2, w2, f2, cs⟩ := m_prod (N := N) (m := N) t1 (by omega) (by omega) p1' hb1 v1 b16 r1 (by omega)
        obtain ⟨z3, e3, t3, v3, w3, w3', f3⟩ := m_push (o := 21) t2 (by omega) e21
        obtain ⟨z4, e4, t4, v4, w4, f4⟩ := m_tscan hN ht t3 (by omega)
        have ib : ql_ib (z2.1 20 0) 310 = true := by rw [t2.2.2.2.2.2.1]; exact ii_ib (by omega) (by omega)
        have fz4 : ft z z4 vb wb := ft_t (ft_t (ft_t f1' f2 (Nat.le_refl _) (Nat.le_refl _)) f3 (by omega) (by omega)) f4 (by omega) (by omega)
        have step : f_X11_test_12 N (m2 + 1) z1 (ii 0) = f_X11_test_12 N m2 z4 (ii 1) := by
          rw [f_X11_test_12, e15]
          unfold f_X11_test_172 f_X11_test_279 f_X11_works
          rw [e15, e21]
          refine sp rfl (sp rfl (sb e2 (sp ib ?_)))
          rw [e3]
          exact sb e4 rfl
        refine mT_pre (e1.trans step) (show m2 + ((q1 o k).2.2 + 1) = m + k by omega) fz4 (ih any (both &&& (q1 o k).2.1) ((q1 o k).2.2 + 1) z4 (n' + 1) m2 (by omega) (by omega) (by rw [show vb + (n' + 1) = vb + n' + 1 by omega, show wb + (n' + 1) = wb + n' + 1 by omega]; exact t4) ?_ (bs_f hb fz4 (Nat.le_refl _)) (by omega) (by omega) (by omega) a16 (and_lt both r1))
        rcases cs with ⟨rfl, ha⟩ | ⟨rfl, x1, x2⟩
        · refine Or.inr (Or.inl ⟨rfl, ha, ?_, ?_⟩)
          · rw [v4, v3]; exact v2
          · rw [w4]; exact w3
        · refine Or.inr (Or.inr (Or.inr ⟨rfl, ?_, ?_, ?_, ?_⟩))
          · rw [v4, v3]; exact x1
          · rw [v4, v3]; exact v2
          · rw [w4, w3' wb (by omega)]; exact x2
          · rw [w4]; exact w3
      · rw [if_neg c2]
        have n21 : ¬ ii (mt (tk (q1 o k).2.2)) = ii 21 := fun x => c2 ((mt_eq h25 (by omega) (by omega)).mp x)
        by_cases c3 : tk (q1 o k).2.2 = 18
        · rw [if_pos c3]
          have hne : (q1 o k).2.2 ≠ c := fun x => by rw [x, hk0.2.1] at c3; omega
          have e20 : ii (mt (tk (q1 o k).2.2)) = ii 20 := (mt_eq h25 (by omega) (by omega)).mpr c3
          obtain ⟨z2, e2, t2, v2, w2, f2⟩ := m_coll (N := N) (m := N) t1 (by omega) (by omega) p1' hb1 v1 a16 b16 r1 (by omega)
          obtain ⟨z3, e3, t3, v3, w3, w3', f3⟩ := m_push (o := 20) t2 (by omega) e20
          obtain ⟨z4, e4, t4, v4, w4, f4⟩ := m_tscan hN ht t3 (by omega)
          have ib : ql_ib (z2.1 20 0) 310 = true := by rw [t2.2.2.2.2.2.1]; exact ii_ib (by omega) (by omega)
          have fz4 : ft z z4 vb wb := ft_t (ft_t (ft_t f1' f2 (Nat.le_refl _) (Nat.le_refl _)) f3 (by omega) (by omega)) f4 (by omega) (by omega)
          have step : f_X11_test_12 N (m2 + 1) z1 (ii 0) = f_X11_test_12 N m2 z4 (ii 1) := by
            rw [f_X11_test_12, e15]
            unfold f_X11_test_172 f_X11_test_279 f_X11_works
            rw [e15]
            refine sp rfl (sn n21 (sp e20 ?_))
            rw [e20]
            refine sb e2 (sp ib ?_)
            rw [e3]
            exact sb e4 rfl
          refine mT_pre (e1.trans step) (show m2 + ((q1 o k).2.2 + 1) = m + k by omega) fz4 (ih (any ||| (both &&& (q1 o k).2.1)) 15 ((q1 o k).2.2 + 1) z4 1 m2 (by omega) (by omega) t4 ?_ (bs_f hb fz4 (Nat.le_refl _)) (by omega) (by omega) (by omega) (or_lt a16 (and_lt both r1)) (by omega))
          refine Or.inr (Or.inr (Or.inl ⟨rfl, rfl, ?_, ?_⟩))
          · rw [v4, v3]; exact v2
          · rw [w4]; exact w3
        · rw [if_neg c3]
          refine ⟨fun _ => ⟨z1, m2 + 1, n, any, both, (q1 o k).2.1, e1, hm1, t1, p1', hb1, v1, a16, b16, r1, rfl, c2, c3, f1', by show vb + n + 1 ≤ (q1 o k).2.2; omega, by show wb + n ≤ (q1 o k).2.2; omega⟩, fun hx => absurd rfl hx⟩
    · rw [if_neg c1]
      exact ⟨fun hx => (by cases hx), fun _ => g2 c1⟩
theorem m_atoms {t : Nat} (h : t = 12 ∨ t = 13 ∨ t = 17 ∨ t = 18) : ∃ v, v < 16 ∧ f_X11_atomsOf N (ii t) = some (ii v) ∧ (t = 12 → v = 10) ∧ (t = 13 → v = 12) ∧ (t = 17 → v = 0) ∧ (t = 18 → v = 15) := by
  rcases h with rfl | rfl | rfl | rfl
  · exact ⟨10, by omega, rfl, by omega, by omega, by omega, by omega⟩
  · exact ⟨12, by omega, rfl, by omega, by omega, by omega, by omega⟩
  · exact ⟨0, by omega, rfl, by omega, by omega, by omega, by omega⟩
  · exact ⟨15, by omega, rfl, by omega, by omega, by omega, by omega⟩
end
