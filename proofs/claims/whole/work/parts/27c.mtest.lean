/-! the reference's reading of tests: what waits on its stacks -/
section
variable {N L c : Nat} {b tk bg nx : Nat → Nat}
/-- the base: nothing, or a bracket -/
def bs (z : ql_Z) (wb : Nat) : Prop := wb = 0 ∨ z.1 18 (wb - 1) = ii 23
/-- sums and products that wait above the base; n of each stack -/
def pe (z : ql_Z) (vb wb n any both : Nat) : Prop :=
  (n = 0 ∧ any = 0 ∧ both = 15) ∨ (n = 1 ∧ any = 0 ∧ z.1 17 vb = ii both ∧ z.1 18 wb = ii 21) ∨ (n = 1 ∧ both = 15 ∧ z.1 17 vb = ii any ∧ z.1 18 wb = ii 20) ∨
  (n = 2 ∧ z.1 17 vb = ii any ∧ z.1 17 (vb + 1) = ii both ∧ z.1 18 wb = ii 20 ∧ z.1 18 (wb + 1) = ii 21)
theorem and15 {x : Nat} (h : x < 16) : 15 &&& x = x := by
  have t : ∀ x : Fin 16, 15 &&& x.1 = x.1 := by decide +kernel
  exact t ⟨x, h⟩
theorem or0 (x : Nat) : 0 ||| x = x := Nat.zero_or x
theorem bs_s {z : ql_Z} {k vm wb op lst m : Nat} (h : tq b L tk bg nx z k vm wb op) (hw : wb < 310) (hb : bs z wb) (hl : lst < 100) : f_X11_works_0 N (m + 1) z (ii lst) = some z := by
  refine m_wstop h hw ?_ hl
  rcases hb with hb | hb
  · exact Or.inl hb
  · exact Or.inr ⟨23, by omega, hb, Or.inr rfl⟩
/-- all that waits is worked out -/
theorem m_coll {z : ql_Z} {k vb wb n op any both x m : Nat} (h : tq b L tk bg nx z k (vb + n + 1) (wb + n) op) (hv : vb + n < 308) (hw : wb + n < 308) (hp : pe z vb wb n any both) (hb : bs z wb) (hx : z.1 17 (vb + n) = ii x) (a16 : any < 16) (b16 : both < 16) (x16 : x < 16) (hm : 3 ≤ m) :
    ∃ z', f_X11_works_0 N m z (ii 20) = some z' ∧ tq b L tk bg nx z' k (vb + 1) wb op ∧ z'.1 17 vb = ii (any ||| (both &&& x)) ∧ z'.1 18 = z.1 18 ∧ ft z z' vb wb := by
  obtain ⟨m, rfl⟩ : ∃ j, m = j + 3 := ⟨m - 3, by omega⟩
  rcases hp with ⟨rfl, rfl, rfl⟩ | ⟨rfl, rfl, p1, p2⟩ | ⟨rfl, rfl, p1, p2⟩ | ⟨rfl, p1, p2, p3, p4⟩
  · refine ⟨z, bs_s h (by omega) hb (by omega), h, ?_, rfl, ⟨fun _ _ => rfl, rfl, fun _ _ => rfl, fun _ _ => rfl⟩⟩
    rw [and15 x16, or0]; exact hx
  · obtain ⟨z1, e1, t1, v1, w1, f1⟩ := m_wpop (N := N) (m := m + 2) (o := 21) (lst := 20) h (by omega) (by omega) (Or.inr rfl) (by omega) p2 p1 hx b16 x16
    have hb1 : bs z1 wb := by unfold bs at *; rw [w1]; exact hb
    refine ⟨z1, ?_, t1, ?_, w1, f1⟩
    · rw [e1]; exact bs_s t1 (by omega) hb1 (by omega)
    · rw [v1, if_neg (by decide), or0]
  · obtain ⟨z1, e1, t1, v1, w1, f1⟩ := m_wpop (N := N) (m := m + 2) (o := 20) (lst := 20) h (by omega) (by omega) (Or.inl rfl) (by omega) p2 p1 hx a16 x16
    have hb1 : bs z1 wb := by unfold bs at *; rw [w1]; exact hb
    refine ⟨z1, ?_, t1, ?_, w1, f1⟩
    · rw [e1]; exact bs_s t1 (by omega) hb1 (by omega)
    · rw [v1, if_pos rfl, and15 x16]
  · obtain ⟨z1, e1, t1, v1, w1, f1⟩ := m_wpop (N := N) (vm := vb + 1) (wm := wb + 1) (m := m + 2) (o := 21) (lst := 20) h (by omega) (by omega) (Or.inr rfl) (by omega) p4 p2 hx b16 x16
    rw [if_neg (by decide)] at v1
    obtain ⟨z2, e2, t2, v2, w2, f2⟩ := m_wpop (N := N) (vm := vb) (wm := wb) (m := m + 1) (o := 20) (lst := 20) t1 (by omega) (by omega) (Or.inl rfl) (by omega) (by rw [w1]; exact p3) ((f1.2.2.1 vb (by omega)).trans p1) v1 a16 (and_lt both x16)
    have hb2 : bs z2 wb := by unfold bs at *; rw [w2, w1]; exact hb
    refine ⟨z2, ?_, t2, ?_, w2.trans w1, ft_t (ft_l f1 (show vb ≤ vb + 1 by omega) (show wb ≤ wb + 1 by omega)) f2 (Nat.le_refl _) (Nat.le_refl _)⟩
    · rw [e1, e2]; exact bs_s t2 (by omega) hb2 (by omega)
    · rw [v2, if_pos rfl]
/-- products are worked out -/
theorem m_prod {z : ql_Z} {k vb wb n op any both x m : Nat} (h : tq b L tk bg nx z k (vb + n + 1) (wb + n) op) (hv : vb + n < 308) (hw : wb + n < 308) (hp : pe z vb wb n any both) (hb : bs z wb) (hx : z.1 17 (vb + n) = ii x) (b16 : both < 16) (x16 : x < 16) (hm : 2 ≤ m) :
    ∃ z' n', n' ≤ 1 ∧ n' ≤ n ∧ f_X11_works_0 N m z (ii 21) = some z' ∧ tq b L tk bg nx z' k (vb + n' + 1) (wb + n') op ∧ z'.1 17 (vb + n') = ii (both &&& x) ∧ z'.1 18 = z.1 18 ∧ ft z z' vb wb ∧ ((n' = 0 ∧ any = 0) ∨ (n' = 1 ∧ z'.1 17 vb = ii any ∧ z'.1 18 wb = ii 20)) := by
  obtain ⟨m, rfl⟩ : ∃ j, m = j + 2 := ⟨m - 2, by omega⟩
  rcases hp with ⟨rfl, rfl, rfl⟩ | ⟨rfl, rfl, p1, p2⟩ | ⟨rfl, rfl, p1, p2⟩ | ⟨rfl, p1, p2, p3, p4⟩
  · exact ⟨z, 0, by omega, by omega, bs_s h (by omega) hb (by omega), h, by rw [and15 x16]; exact hx, rfl, ⟨fun _ _ => rfl, rfl, fun _ _ => rfl, fun _ _ => rfl⟩, Or.inl ⟨rfl, rfl⟩⟩
  · obtain ⟨z1, e1, t1, v1, w1, f1⟩ := m_wpop (N := N) (m := m + 1) (o := 21) (lst := 21) h (by omega) (by omega) (Or.inr rfl) (by omega) p2 p1 hx b16 x16
    have hb1 : bs z1 wb := by unfold bs at *; rw [w1]; exact hb
    refine ⟨z1, 0, by omega, by omega, ?_, t1, ?_, w1, f1, Or.inl ⟨rfl, rfl⟩⟩
    · rw [e1]; exact bs_s t1 (by omega) hb1 (by omega)
    · show z1.1 17 vb = _
      rw [v1, if_neg (by decide)]
  · refine ⟨z, 1, by omega, by omega, ?_, h, by rw [and15 x16]; exact hx, rfl, ⟨fun _ _ => rfl, rfl, fun _ _ => rfl, fun _ _ => rfl⟩, Or.inr ⟨rfl, p1, p2⟩⟩
    exact m_wstop h (by omega) (Or.inr ⟨20, by omega, p2, Or.inl (by omega)⟩) (by omega)
  · obtain ⟨z1, e1, t1, v1, w1, f1⟩ := m_wpop (N := N) (vm := vb + 1) (wm := wb + 1) (m := m + 1) (o := 21) (lst := 21) h (by omega) (by omega) (Or.inr rfl) (by omega) p4 p2 hx b16 x16
    rw [if_neg (by decide)] at v1
    refine ⟨z1, 1, by omega, by omega, ?_, t1, v1, w1, ft_l f1 (by omega) (by omega), Or.inr ⟨rfl, (f1.2.2.1 vb (by omega)).trans p1, by rw [w1]; exact p3⟩⟩
    rw [e1]
    exact m_wstop t1 (by omega) (Or.inr ⟨20, by omega, by rw [w1]; exact p3, Or.inl (by omega)⟩) (by omega)
/-- an operator goes to those that wait -/
theorem m_push {z : ql_Z} {k vm wm op o : Nat} (h : tq b L tk bg nx z k vm wm op) (hw : wm < 310) (ho : ii (mt (tk k)) = ii o) : ∃ z', (ql_up (ql_up z.1 18 (upd (z.1 18) ((z.1 20 0).toNatClampNeg) (z.1 15 0))) 20 (fun _ => z.1 20 0 + 1), z.2) = z' ∧ tq b L tk bg nx z' k vm (wm + 1) op ∧ z'.1 17 = z.1 17 ∧ z'.1 18 wm = ii o ∧ (∀ q, q ≠ wm → z'.1 18 q = z.1 18 q) ∧ ft z z' vm wm := by
  refine ⟨_, rfl, ⟨h.1, h.2.1, h.2.2.1, h.2.2.2.1, h.2.2.2.2.1, ?_, h.2.2.2.2.2.2⟩, rfl, ?_, fun q hq => ?_, ⟨fun s hs => (up_ne (S := ql_up z.1 18 _) (k := 20) (by omega)).trans (up_ne (by omega)), rfl, fun _ _ => rfl, fun q hq => ?_⟩⟩
  · show z.1 20 0 + 1 = _
    rw [h.2.2.2.2.2.1, lk_1, ii_add]
  · show upd (z.1 18) ((z.1 20 0).toNatClampNeg) (z.1 15 0) wm = _
    rw [h.2.2.2.2.2.1, ii_nat (by omega), ud_same, h.2.2.1, ho]
  · show upd (z.1 18) ((z.1 20 0).toNatClampNeg) (z.1 15 0) q = _
    rw [h.2.2.2.2.2.1, ii_nat (by omega), ud_ne hq]
  · show upd (z.1 18) ((z.1 20 0).toNatClampNeg) (z.1 15 0) q = _
    rw [h.2.2.2.2.2.1, ii_nat (by omega), ud_ne (by omega)]
/-- a bracket waits, or none does -/
theorem m_inner {z : ql_Z} {k vm wm op : Nat} (hN : 1000 ≤ N) (h : tq b L tk bg nx z k vm wm op) (hw : wm < 310) :
    ((∃ q, q < wm ∧ z.1 18 q = ii 23) → f_X11_isInner N z = some (ii 1)) ∧ ((∀ q, q < wm → z.1 18 q ≠ ii 23) → f_X11_isInner N z = some (ii 0)) := by
  have h20 := h.2.2.2.2.2.1
  have one : ∀ d q m, q + d = wm → d + 1 ≤ m → f_X11_isInner_4 N z m (ii 1) (ii q) = some (ii 1) := by
    intro d
    induction d with
    | zero =>
      intro q m hq hm
      obtain ⟨m, rfl⟩ : ∃ j, m = j + 1 := ⟨m - 1, by omega⟩
      rw [f_X11_isInner_4, h20]
      exact sp (le_y q (by omega) (by omega)) (sp bz_1 rfl)
    | succ d ih =>
      intro q m hq hm
      obtain ⟨m, rfl⟩ : ∃ j, m = j + 1 := ⟨m - 1, by omega⟩
      rw [f_X11_isInner_4, h20]
      unfold f_X11_isInner_27 f_X11_isInner_32
      rw [lk_1, ii_add]
      exact sn (le_n q (by omega) (by omega)) (sn n10 (ih (q + 1) m (by omega) (by omega)))
  have go : ∀ d q m, q + d = wm → d + 1 ≤ m → ((∃ x, q ≤ x ∧ x < wm ∧ z.1 18 x = ii 23) → f_X11_isInner_4 N z m (ii 0) (ii q) = some (ii 1)) ∧ ((∀ x, q ≤ x → x < wm → z.1 18 x ≠ ii 23) → f_X11_isInner_4 N z m (ii 0) (ii q) = some (ii 0)) := by
    intro d
    induction d with
    | zero =>
      intro q m hq hm
      obtain ⟨m, rfl⟩ : ∃ j, m = j + 1 := ⟨m - 1, by omega⟩
      refine ⟨fun ⟨x, h1, h2, _⟩ => by omega, fun _ => ?_⟩
      rw [f_X11_isInner_4, h20]
      exact sp (le_y q (by omega) (by omega)) (sp bz_0 rfl)
    | succ d ih =>
      intro q m hq hm
      obtain ⟨m, rfl⟩ : ∃ j, m = j + 1 := ⟨m - 1, by omega⟩
      have i1 := one d (q + 1) m (by omega) (by omega)
      obtain ⟨i2, i3⟩ := ih (q + 1) m (by omega) (by omega)
      rw [f_X11_isInner_4, h20]
      unfold f_X11_isInner_27 f_X11_isInner_32
      rw [lk_1, ii_add, lk_0, ii_nat (by omega)]
      by_cases e : z.1 18 q = ii 23
      · refine ⟨fun _ => sn (le_n q (by omega) (by omega)) (sp rfl (sp (ii_ib (by omega) (by omega)) (sp e i1))), fun hx => absurd e (hx q (Nat.le_refl _) (by omega))⟩
      · refine ⟨fun ⟨x, h1, h2, h3⟩ => sn (le_n q (by omega) (by omega)) (sp rfl (sp (ii_ib (by omega) (by omega)) (sn e (i2 ⟨x, ?_, h2, h3⟩)))), fun hx => sn (le_n q (by omega) (by omega)) (sp rfl (sp (ii_ib (by omega) (by omega)) (sn e (i3 (fun x h1 h2 => hx x (by omega) h2)))))⟩
        have : x ≠ q := fun y => e (y ▸ h3)
        omega
  unfold f_X11_isInner f_X11_isInner_0
  obtain ⟨g1, g2⟩ := go wm 0 N (by omega) (by omega)
  exact ⟨fun ⟨q, h1, h2⟩ => g1 ⟨q, Nat.zero_le _, h1, h2⟩, fun hx => g2 (fun x _ h => hx x h)⟩
end
