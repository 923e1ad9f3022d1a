/-! the reference's reading of ONE -/
section
variable {N L c : Nat} {b tk bg nx : Nat → Nat}
theorem tq_c {z : ql_Z} {k vm wm op vm' wm' op' : Nat} (h : tq b L tk bg nx z k vm wm op) {z' : ql_Z} (e : ∀ s, s ≠ 17 → s ≠ 18 → s ≠ 19 → s ≠ 20 → s ≠ 21 → z'.1 s = z.1 s) (a : z'.1 19 0 = ii vm') (b' : z'.1 20 0 = ii wm') (d : z'.1 21 0 = ii op') : tq b L tk bg nx z' k vm' wm' op' := by
  refine ⟨?_, ?_, ?_, ?_, a, b', d⟩
  · have := h.1
    unfold mtx at *
    rw [e 1 (by decide) (by decide) (by decide) (by decide) (by decide), e 2 (by decide) (by decide) (by decide) (by decide) (by decide)]; exact this
  · rw [e 14 (by decide) (by decide) (by decide) (by decide) (by decide)]; exact h.2.1
  · rw [e 15 (by decide) (by decide) (by decide) (by decide) (by decide)]; exact h.2.2.1
  · rw [e 16 (by decide) (by decide) (by decide) (by decide) (by decide)]; exact h.2.2.2.1
theorem m_lit (hN : 1000 ≤ N) (ht : ts b L tk bg nx c) (hc : c ≤ 300) {o k vm w0 j m v : Nat} {z : ql_Z} (hk : k < c) (ho : o ≤ 8) (hj : j ≤ o) (h : tq b L tk bg nx z k vm (w0 + j) o) (hn : ∀ q, w0 ≤ q → q < w0 + j → z.1 18 q = ii 22) (h0 : w0 = 0 ∨ z.1 18 (w0 - 1) ≠ ii 22) (hv : vm ≤ k) (hw : w0 + j ≤ k) (v16 : v < 16) (ha : f_X11_atomsOf N (z.1 15 0) = some (ii v)) :
    ∃ z', f_X11_test_117 N (f_X11_test_12 N m) z = f_X11_test_12 N m z' (ii 0) ∧ tq b L tk bg nx z' (k + 1) (vm + 1) w0 (o - j) ∧ z'.1 17 vm = ii (nt j v) ∧ ft z z' vm w0 := by
  have h' : tq b L tk bg nx (ql_up (ql_up z.1 17 (upd (z.1 17) vm (ii v))) 19 (fun _ => ii (vm + 1)), z.2) k (vm + 1) (w0 + j) o := tq_c h (fun s a1 a2 a3 a4 a5 => (up_ne (S := ql_up z.1 17 (upd (z.1 17) vm (ii v))) (k := 19) a3).trans (up_ne a1)) rfl h.2.2.2.2.2.1 h.2.2.2.2.2.2
  obtain ⟨z1, e1, t1, v1, w1, f1⟩ := m_turns (N := N) hN (show vm < 310 by omega) j o v N _ (by omega) hj (by omega) (by omega) v16 h' (by
    show upd (z.1 17) vm (ii v) vm = _
    rw [ud_same]) hn h0
  obtain ⟨z2, e2, t2, v2, w2, f2⟩ := m_tscan hN ht t1 hk
  refine ⟨z2, ?_, t2, by rw [v2]; exact v1, ?_⟩
  · unfold f_X11_test_117 f_X11_test_279 f_X11_turns
    refine sb ha ?_
    rw [h.2.2.2.2.1, ii_nat (by omega), lk_1, ii_add]
    exact sp (ii_ib (by omega) (by omega)) (sb e1 (sb e2 rfl))
  · refine ⟨fun s hs => (f2.1 s hs).trans ((f1.1 s hs).trans ?_), f2.2.1.trans f1.2.1, fun q hq => (f2.2.2.1 q (by omega)).trans ((f1.2.2.1 q hq).trans ?_), fun q hq => (f2.2.2.2 q hq).trans (f1.2.2.2 q hq)⟩
    · exact (up_ne (S := ql_up z.1 17 (upd (z.1 17) vm (ii v))) (k := 19) (by omega)).trans (up_ne (by omega))
    · show upd (z.1 17) vm (ii v) q = z.1 17 q
      rw [ud_ne (by omega)]
/-- NOT and brackets wait -/
theorem m_open (hN : 1000 ≤ N) (ht : ts b L tk bg nx c) {o k vm wm m t : Nat} {z : ql_Z} (hk : k < c) (ho : o < 8) (h : tq b L tk bg nx z k vm wm o) (hw : wm < 310) (e : ii (mt (tk k)) = ii t) :
    ∃ z', f_X11_test_34 N (f_X11_test_12 N m) z (ii 1) = f_X11_test_12 N m z' (ii 1) ∧ tq b L tk bg nx z' (k + 1) vm (wm + 1) (o + 1) ∧ z'.1 18 wm = ii t ∧ ft z z' vm wm := by
  obtain ⟨z1, e1, t1, v1, w1, w1', f1⟩ := m_push (o := t) h hw e
  have h2 : tq b L tk bg nx (ql_up z1.1 21 (fun _ => ii (o + 1)), z1.2) k vm (wm + 1) (o + 1) := tq_c t1 (fun s a1 a2 a3 a4 a5 => up_ne (S := z1.1) (k := 21) a5) t1.2.2.2.2.1 t1.2.2.2.2.2.1 rfl
  obtain ⟨z2, e2, t2, v2, w2, f2⟩ := m_tscan hN ht h2 hk
  refine ⟨z2, ?_, t2, by rw [w2]; exact w1, ?_⟩
  · unfold f_X11_test_34 f_X11_test_279
    have n8 : ¬ z.1 21 0 = 8 := fun x => by
      rw [h.2.2.2.2.2.2] at x
      have := (ii_eq (b := 8) (show o < 2147483648 by omega) (by omega)).mp x; omega
    have ib : ql_ib (z.1 20 0) 310 = true := by rw [h.2.2.2.2.2.1]; exact ii_ib (by omega) (by omega)
    refine sn n8 (sp ib (sb (a := z2) ?_ rfl))
    rw [← e2, ← e1, h.2.2.2.2.2.2, lk_1, ii_add]
  · refine ⟨fun s hs => (f2.1 s hs).trans ((up_ne (S := z1.1) (k := 21) (by omega)).trans (f1.1 s hs)), f2.2.1.trans f1.2.1, fun q hq => (f2.2.2.1 q hq).trans (f1.2.2.1 q hq), fun q hq => (f2.2.2.2 q (by omega)).trans (f1.2.2.2 q hq)⟩
theorem ii_n8 (o : Nat) (ho : o ≤ 8) (h : 8 ≤ o) : ii o = (8 : Int32) := by
  obtain rfl : o = 8 := by omega
  rfl
theorem m_one (hN : 1000 ≤ N) (ht : ts b L tk bg nx c) (hk0 : te_ok tk c) : ∀ d o, o ≤ 8 → 9 - o ≤ d → m1ok N L c b tk bg nx (p1 tk d) o
  | 0, o, ho, hd => by omega
  | d + 1, o, ho, hd => by
    intro k z vm w0 j m hk hj h hn h0 hv hw hm
    have hc := hk0.1
    obtain ⟨m, rfl⟩ : ∃ j, m = j + 1 := ⟨m - 1, by omega⟩
    have h25 := hk0.2.2 k
    have e15 := h.2.2.1
    have mq : ∀ s, 2 ≤ s → s ≤ 24 → (ii (mt (tk k)) = ii s ↔ tk k = s - 2) := fun s a1 a2 => mt_eq h25 a1 a2
    rw [f_X11_test_12, e15]
    have lits : ∀ s v, (s = 12 ∨ s = 13 ∨ s = 17 ∨ s = 18) → tk k = s - 2 → v < 16 → f_X11_atomsOf N (ii s) = some (ii v) → p1 tk (d + 1) o k = (true, v, k + 1) →
        ((p1 tk (d + 1) o k).1 = true → ∃ z' m', f_X11_test_117 N (f_X11_test_12 N m) z = f_X11_test_12 N m' z' (ii 0) ∧ m' + (p1 tk (d + 1) o k).2.2 = m + 1 + k ∧ tq b L tk bg nx z' (p1 tk (d + 1) o k).2.2 (vm + 1) w0 (o - j) ∧ z'.1 17 vm = ii (nt j (p1 tk (d + 1) o k).2.1) ∧ ft z z' vm w0) ∧
        (¬ (p1 tk (d + 1) o k).1 = true → ∃ z', f_X11_test_117 N (f_X11_test_12 N m) z = some (-ii 1, z') ∧ z'.1 16 0 = ii (bg (p1 tk (d + 1) o k).2.2) ∧ ft z z' 0 0) := fun s v hs hts hv16 ha hp => by
      have hne : k ≠ c := fun x => by rw [x, hk0.2.1] at hts; omega
      rw [hp]
      obtain ⟨z', a1, a2, a3, a4⟩ := m_lit (N := N) (m := m) hN ht hc (show k < c by omega) ho hj h hn h0 hv hw hv16 (by rw [e15, (mq s (by omega) (by omega)).mpr hts]; exact ha)
      exact ⟨fun _ => ⟨z', m, a1, by show m + (k + 1) = _; omega, a2, a3, a4⟩, fun hx => absurd rfl hx⟩
    have bads : p1 tk (d + 1) o k = (false, 0, k) → ∀ F : Option (Int32 × ql_Z), F = some (-ii 1, z) →
        ((p1 tk (d + 1) o k).1 = true → ∃ z' m', F = f_X11_test_12 N m' z' (ii 0) ∧ m' + (p1 tk (d + 1) o k).2.2 = m + 1 + k ∧ tq b L tk bg nx z' (p1 tk (d + 1) o k).2.2 (vm + 1) w0 (o - j) ∧ z'.1 17 vm = ii (nt j (p1 tk (d + 1) o k).2.1) ∧ ft z z' vm w0) ∧
        (¬ (p1 tk (d + 1) o k).1 = true → ∃ z', F = some (-ii 1, z') ∧ z'.1 16 0 = ii (bg (p1 tk (d + 1) o k).2.2) ∧ ft z z' 0 0) := fun hp F hF => by
      rw [hp]
      exact ⟨fun hx => (by cases hx), fun _ => ⟨z, hF, h.2.2.2.1, ⟨fun _ _ => rfl, rfl, fun _ _ => rfl, fun _ _ => rfl⟩⟩⟩
    rw [if_neg (show ¬ ii 1 = (0 : Int32) from n10)]
    by_cases c5 : tk k = 20
    · have hne : k ≠ c := fun x => by rw [x, hk0.2.1] at c5; omega
      have e22 := (mq 22 (by omega) (by omega)).mpr c5
      rw [if_pos (show ii (mt (tk k)) = (22 : Int32) from e22)]
      by_cases c8 : 8 ≤ o
      · refine bads ?_ _ ?_
        · rw [p1, if_neg (show ¬ tk k = 10 by omega), if_neg (show ¬ tk k = 11 by omega), if_neg (show ¬ tk k = 15 by omega), if_neg (show ¬ tk k = 16 by omega), if_pos c5, if_pos c8]
        · unfold f_X11_test_34
          exact sp (by rw [h.2.2.2.2.2.2]; exact ii_n8 o ho c8) rfl
      · obtain ⟨z1, e1, t1, w1, f1⟩ := m_open (N := N) (m := m) hN ht (show k < c by omega) (by omega) h (by omega) e22
        have ih := m_one hN ht hk0 d (o + 1) (by omega) (by omega)
        obtain ⟨g1, g2⟩ := ih (k + 1) z1 vm w0 (j + 1) m (by omega) (by omega) t1 (fun q q1 q2 => by
          by_cases e : q = w0 + j
          · subst e; exact w1
          · rw [f1.2.2.2 q (by omega)]; exact hn q q1 (by omega)) (by
          by_cases c0 : w0 = 0
          · exact Or.inl c0
          · rcases h0 with h0 | h0
            · exact Or.inl h0
            · exact Or.inr (by rw [f1.2.2.2 (w0 - 1) (by omega)]; exact h0)) (by omega) (by omega) (by omega)
        have ep : p1 tk (d + 1) o k = if (p1 tk d (o + 1) (k + 1)).1 = true then (true, 15 - (p1 tk d (o + 1) (k + 1)).2.1, (p1 tk d (o + 1) (k + 1)).2.2) else (false, 0, (p1 tk d (o + 1) (k + 1)).2.2) := by
          rw [p1, if_neg (show ¬ tk k = 10 by omega), if_neg (show ¬ tk k = 11 by omega), if_neg (show ¬ tk k = 15 by omega), if_neg (show ¬ tk k = 16 by omega), if_pos c5, if_neg c8]
        rw [e1, ep]
        by_cases q : (p1 tk d (o + 1) (k + 1)).1 = true
        · rw [if_pos q]
          obtain ⟨z', m', a1, a2, a3, a4, a5⟩ := g1 q
          refine ⟨fun _ => ⟨z', m', a1, by show m' + (p1 tk d (o + 1) (k + 1)).2.2 = _; omega, ?_, a4, ft_t (ft_l f1 (Nat.le_refl _) (by omega)) a5 (Nat.le_refl _) (Nat.le_refl _)⟩, fun hx => absurd rfl hx⟩
          rw [show o - j = o + 1 - (j + 1) by omega]; exact a3
        · rw [if_neg q]
          obtain ⟨z', a1, a2, a3⟩ := g2 q
          exact ⟨fun hx => (by cases hx), fun _ => ⟨z', a1, a2, ft_t (ft_l f1 (Nat.zero_le _) (Nat.zero_le _)) a3 (Nat.le_refl _) (Nat.le_refl _)⟩⟩
    rw [if_neg (show ¬ ii (mt (tk k)) = (22 : Int32) from fun x => c5 ((mq 22 (by omega) (by omega)).mp x))]
    by_cases c6 : tk k = 21
    · have hne : k ≠ c := fun x => by rw [x, hk0.2.1] at c6; omega
      have e23 := (mq 23 (by omega) (by omega)).mpr c6
      rw [if_pos (show ii (mt (tk k)) = (23 : Int32) from e23)]
      by_cases c8 : 8 ≤ o
      · refine bads ?_ _ ?_
        · rw [p1, if_neg (show ¬ tk k = 10 by omega), if_neg (show ¬ tk k = 11 by omega), if_neg (show ¬ tk k = 15 by omega), if_neg (show ¬ tk k = 16 by omega), if_neg c5, if_pos c6, if_pos c8]
        · unfold f_X11_test_34
          exact sp (by rw [h.2.2.2.2.2.2]; exact ii_n8 o ho c8) rfl
      · obtain ⟨z1, e1, t1, w1, f1⟩ := m_open (N := N) (m := m) hN ht (show k < c by omega) (by omega) h (by omega) e23
        have ih := m_one hN ht hk0 d (o + 1) (by omega) (by omega)
        obtain ⟨g1, g2⟩ := m_T (N := N) hN ht hk0 (vb := vm) (wb := w0 + j + 1) ih (fun k hk => p1_ro hk0 d (o + 1) k hk) 300 0 15 (k + 1) z1 0 m (by omega) (by omega) t1 (Or.inl ⟨rfl, rfl, rfl⟩) (Or.inr w1) (by omega) (by omega) (by omega) (by omega) (by omega)
        obtain ⟨r1, r2, r3, r4⟩ := pT_ro hk0 (r1 := p1 tk d) (o := o + 1) (fun k hk => p1_ro hk0 d (o + 1) k hk) 300 0 15 (k + 1) (by omega) (by omega) (Or.inr trivial)
        have ep : p1 tk (d + 1) o k = if (pT tk (p1 tk d) (o + 1) 300 0 15 (k + 1)).1 = true then (if tk (pT tk (p1 tk d) (o + 1) 300 0 15 (k + 1)).2.2 = 22 then (true, (pT tk (p1 tk d) (o + 1) 300 0 15 (k + 1)).2.1, (pT tk (p1 tk d) (o + 1) 300 0 15 (k + 1)).2.2 + 1) else (false, 0, (pT tk (p1 tk d) (o + 1) 300 0 15 (k + 1)).2.2)) else (false, 0, (pT tk (p1 tk d) (o + 1) 300 0 15 (k + 1)).2.2) := by
          rw [p1, if_neg (show ¬ tk k = 10 by omega), if_neg (show ¬ tk k = 11 by omega), if_neg (show ¬ tk k = 15 by omega), if_neg (show ¬ tk k = 16 by omega), if_neg c5, if_pos c6, if_neg c8]
        rw [e1, ep]
        generalize hr : pT tk (p1 tk d) (o + 1) 300 0 15 (k + 1) = r at g1 g2 r1 r2 r3 r4
        by_cases q : r.1 = true
        · rw [if_pos q]
          obtain ⟨z', m', n, any, both, x, a1, a2, a3, a4, a5, a6, a7, a8, a9, a10, a11, a12, a13, a14, a15⟩ := g1 q
          have h25' := hk0.2.2 r.2.2
          have mq' : ∀ s, 2 ≤ s → s ≤ 24 → (ii (mt (tk r.2.2)) = ii s ↔ tk r.2.2 = s - 2) := fun s b1 b2 => mt_eq h25' b1 b2
          have n21 : ¬ ii (mt (tk r.2.2)) = (21 : Int32) := fun y => a11 ((mq' 21 (by omega) (by omega)).mp y)
          have n20 : ¬ ii (mt (tk r.2.2)) = (20 : Int32) := fun y => a12 ((mq' 20 (by omega) (by omega)).mp y)
          obtain ⟨m3, rfl⟩ : ∃ j, m' = j + 1 := ⟨m' - 1, by omega⟩
          have inn := (m_inner (N := N) hN a3 (by omega)).1 ⟨w0 + j, by omega, by rw [a13.2.2.2 (w0 + j) (by omega)]; exact w1⟩
          by_cases q2 : tk r.2.2 = 22
          · rw [if_pos q2]
            have hne2 : r.2.2 ≠ c := fun y => by rw [y, hk0.2.1] at q2; omega
            obtain ⟨z2, e2, t2, v2, w2, f2⟩ := m_coll (N := N) (m := N) a3 (by omega) (by omega) a4 a5 a6 a7 a8 a9 (by omega)
            have h3 : tq b L tk bg nx (ql_up (ql_up z2.1 20 (fun _ => ii (w0 + j))) 21 (fun _ => ii o), z2.2) r.2.2 (vm + 1) (w0 + j) o := tq_c t2 (fun s b1 b2 b3 b4 b5 => (up_ne (S := ql_up z2.1 20 (fun _ => ii (w0 + j))) (k := 21) b5).trans (up_ne b4)) t2.2.2.2.2.1 rfl rfl
            have wz : ∀ q, q < w0 + j → z2.1 18 q = z.1 18 q := fun q hq => by rw [w2, a13.2.2.2 q (by omega), f1.2.2.2 q hq]
            obtain ⟨z4, e4, t4, v4, w4, f4⟩ := m_turns (N := N) hN (show vm < 310 by omega) j o (any ||| (both &&& x)) N _ (by omega) hj (by omega) (by omega) (or_lt a7 (and_lt both a9)) h3 v2 (fun q q1 q2 => (wz q (by omega)).trans (hn q q1 q2)) (by
              by_cases c0 : w0 = 0
              · exact Or.inl c0
              · rcases h0 with h0 | h0
                · exact Or.inl h0
                · exact Or.inr (fun y => h0 ((wz (w0 - 1) (by omega)).symm.trans y)))
            obtain ⟨z5, e5, t5, v5, w5, f5⟩ := m_tscan hN ht t4 (by omega)
            have step : f_X11_test_12 N (m3 + 1) z' (ii 0) = f_X11_test_12 N m3 z5 (ii 0) := by
              rw [f_X11_test_12, a3.2.2.1]
              refine sp rfl (sn n21 (sn n20 (sp ((mq' 24 (by omega) (by omega)).mpr q2) (sb inn (sn n10 ?_)))))
              unfold f_X11_works f_X11_turns f_X11_test_279
              refine sb e2 ?_
              rw [t2.2.2.2.2.2.1, t2.2.2.2.2.2.2, lk_1, ii_sub (by omega), ii_sub (by omega), show w0 + j + 1 - 1 = w0 + j by omega, show o + 1 - 1 = o by omega]
              exact sb e4 (sb e5 rfl)
            refine ⟨fun _ => ⟨z5, m3, a1.trans step, by show m3 + (r.2.2 + 1) = _; omega, t5, ?_, ?_⟩, fun hx => absurd rfl hx⟩
            · show z5.1 17 vm = ii (nt j r.2.1)
              rw [v5, v4, a10]
            · refine ⟨fun s hs => (f5.1 s hs).trans ((f4.1 s hs).trans (((up_ne (S := ql_up z2.1 20 (fun _ => ii (w0 + j))) (k := 21) (by omega)).trans (up_ne (by omega))).trans ((f2.1 s hs).trans ((a13.1 s hs).trans (f1.1 s hs))))), f5.2.1.trans (f4.2.1.trans (f2.2.1.trans (a13.2.1.trans f1.2.1))), fun q hq => (f5.2.2.1 q (by omega)).trans ((f4.2.2.1 q hq).trans ((f2.2.2.1 q hq).trans ((a13.2.2.1 q hq).trans (f1.2.2.1 q hq)))), fun q hq => (f5.2.2.2 q hq).trans ((f4.2.2.2 q hq).trans (wz q (by omega)))⟩
          · rw [if_neg q2]
            have n24 : ¬ ii (mt (tk r.2.2)) = (24 : Int32) := fun y => q2 ((mq' 24 (by omega) (by omega)).mp y)
            have step : f_X11_test_12 N (m3 + 1) z' (ii 0) = some (-ii 1, z') := by
              rw [f_X11_test_12, a3.2.2.1]
              refine sp rfl (sn n21 (sn n20 (sn n24 ?_)))
              unfold f_X11_test_257
              exact sb inn (sn n10 rfl)
            exact ⟨fun hx => (by cases hx), fun _ => ⟨z', a1.trans step, a3.2.2.2.1, ft_t (ft_l f1 (Nat.zero_le _) (Nat.zero_le _)) (ft_l a13 (Nat.zero_le _) (Nat.zero_le _)) (Nat.le_refl _) (Nat.le_refl _)⟩⟩
        · rw [if_neg q]
          obtain ⟨z', a1, a2, a3⟩ := g2 q
          exact ⟨fun hx => (by cases hx), fun _ => ⟨z', a1, a2, ft_t (ft_l f1 (Nat.zero_le _) (Nat.zero_le _)) a3 (Nat.le_refl _) (Nat.le_refl _)⟩⟩
    rw [if_neg (show ¬ ii (mt (tk k)) = (23 : Int32) from fun x => c6 ((mq 23 (by omega) (by omega)).mp x))]
    by_cases c1 : tk k = 10
    · rw [if_pos (show ii (mt (tk k)) = (12 : Int32) from (mq 12 (by omega) (by omega)).mpr c1)]
      exact lits 12 10 (by omega) c1 (by omega) rfl (by rw [p1, if_pos c1])
    rw [if_neg (show ¬ ii (mt (tk k)) = (12 : Int32) from fun x => c1 ((mq 12 (by omega) (by omega)).mp x))]
    by_cases c2 : tk k = 11
    · rw [if_pos (show ii (mt (tk k)) = (13 : Int32) from (mq 13 (by omega) (by omega)).mpr c2)]
      exact lits 13 12 (by omega) c2 (by omega) rfl (by rw [p1, if_neg c1, if_pos c2])
    rw [if_neg (show ¬ ii (mt (tk k)) = (13 : Int32) from fun x => c2 ((mq 13 (by omega) (by omega)).mp x))]
    by_cases c3 : tk k = 15
    · rw [if_pos (show ii (mt (tk k)) = (17 : Int32) from (mq 17 (by omega) (by omega)).mpr c3)]
      exact lits 17 0 (by omega) c3 (by omega) rfl (by rw [p1, if_neg c1, if_neg c2, if_pos c3])
    rw [if_neg (show ¬ ii (mt (tk k)) = (17 : Int32) from fun x => c3 ((mq 17 (by omega) (by omega)).mp x))]
    by_cases c4 : tk k = 16
    · rw [if_pos (show ii (mt (tk k)) = (18 : Int32) from (mq 18 (by omega) (by omega)).mpr c4)]
      exact lits 18 15 (by omega) c4 (by omega) rfl (by rw [p1, if_neg c1, if_neg c2, if_neg c3, if_pos c4])
    rw [if_neg (show ¬ ii (mt (tk k)) = (18 : Int32) from fun x => c4 ((mq 18 (by omega) (by omega)).mp x))]
    exact bads (by rw [p1, if_neg c1, if_neg c2, if_neg c3, if_neg c4, if_neg c5, if_neg c6]) _ rfl
end
