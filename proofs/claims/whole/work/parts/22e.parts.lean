/-! the reference's search -/
theorem nb_0 : vp_nar .boolean (ii 0) = ii 0 := by decide
theorem nb_1 : vp_nar .boolean (ii 1) = ii 1 := by decide
theorem em_1 (a : Nat) (o : Option Nat) : ii a + em o + ii 1 = ii (a + en o) := by
  cases o with
  | none =>
    show ii a + -ii 1 + ii 1 = ii (a + 0)
    rw [Int32.add_assoc, Int32.add_left_neg]
    exact Int32.add_zero _
  | some v => show ii a + ii v + ii 1 = ii (a + (v + 1)); rw [ii_add, ii_add]; rfl
theorem em_2 (o : Option Nat) : em o + ii 1 = ii (en o) := by
  have := em_1 0 o
  rw [show ii 0 + em o = em o from Int32.zero_add _, Nat.zero_add] at this
  exact this
section
variable {ini : Nat → Option Nat} {st : Nat → Nat → Option Nat} {M : Nat}
theorem ta_0 {B B' : Nat} (hB : B ≤ B') {x y : Nat} (h : ta B ini st 0 x = some y) : ta B' ini st 0 x = some y ∧ x < B := by
  have h : (if x < B then ini x else none) = some y := h
  by_cases q : x < B
  · rw [if_pos q] at h
    exact ⟨by show (if x < B' then ini x else none) = some y; rw [if_pos (by omega)]; exact h, q⟩
  · rw [if_neg q] at h; cases h
theorem bi_rs {q lv nm : Nat → Nat} {c x : Nat} (h : bi x ini st M q lv nm c 0 0) (h0 : ∀ j, j < c → lv j = 0) (hd : ∀ y, ini x = some y → bm q c y) : bi (x + 1) ini st M q lv nm c 0 0 := by
  have low : ∀ j, j < c → nm j < x ∧ ta (x + 1) ini st (lv j) (nm j) = some (q j) := fun j hj => by
    have := (h.1 j hj).1
    rw [h0 j hj] at this ⊢
    have := ta_0 (B' := x + 1) (by omega) this
    exact ⟨this.2, this.1⟩
  refine ⟨fun j hj => ⟨(low j hj).2, (h.1 j hj).2⟩, h.2.1, fun x' y hx hy => ?_, fun j e y hj hw => by omega, h.2.2.2.2.1, h.2.2.2.2.2.1, h.2.2.2.2.2.2⟩
  by_cases e : x' = x
  · subst e
    obtain ⟨j, hj, e⟩ := hd y hy
    exact ⟨j, hj, e, Or.inr ⟨h0 j hj, by have := (low j hj).1; omega⟩⟩
  · exact h.2.2.1 x' y (by omega) hy
theorem bi_rp {q lv nm : Nat → Nat} {c x y : Nat} (h : bi x ini st M q lv nm c 0 0) (h0 : ∀ j, j < c → lv j = 0) (hd : ini x = some y) (hy : y < M) (hn : ¬ bm q c y)
    {q' lv' nm' : Nat → Nat} (e1 : ∀ j, j < c → q' j = q j ∧ lv' j = lv j ∧ nm' j = nm j) (e2 : q' c = y ∧ lv' c = 0 ∧ nm' c = x) : bi (x + 1) ini st M q' lv' nm' (c + 1) 0 0 := by
  have low : ∀ j, j < c → nm j < x ∧ ta (x + 1) ini st (lv j) (nm j) = some (q j) := fun j hj => by
    have := (h.1 j hj).1
    rw [h0 j hj] at this ⊢
    have := ta_0 (B' := x + 1) (by omega) this
    exact ⟨this.2, this.1⟩
  have hm : ∀ p, bm q' (c + 1) p ↔ bm q c p ∨ p = y := fun p => by
    constructor
    · rintro ⟨j, hj, e⟩
      by_cases q1 : j = c
      · subst q1; exact Or.inr (by rw [← e, e2.1])
      · exact Or.inl ⟨j, by omega, by rw [← (e1 j (by omega)).1]; exact e⟩
    · rintro (⟨j, hj, e⟩ | e)
      · exact ⟨j, by omega, by rw [(e1 j hj).1]; exact e⟩
      · exact ⟨c, by omega, by rw [e2.1, e]⟩
  have l0 : ∀ j, j < c + 1 → lv' j = 0 := fun j hj => by
    by_cases q1 : j = c
    · subst q1; exact e2.2.1
    · rw [(e1 j (by omega)).2.1]; exact h0 j (by omega)
  refine ⟨?_, ?_, ?_, fun j e y hj hw => by omega, ?_, by omega, ?_⟩
  · intro j hj
    by_cases q1 : j = c
    · subst q1; rw [e2.1, e2.2.1, e2.2.2]
      exact ⟨by show (if x < x + 1 then ini x else none) = some y; rw [if_pos (by omega)]; exact hd, hy⟩
    · have := e1 j (by omega)
      rw [this.1, this.2.1, this.2.2]; exact ⟨(low j (by omega)).2, (h.1 j (by omega)).2⟩
  · intro i j hij hj
    by_cases q1 : j = c
    · subst q1
      rw [l0 i (by omega), l0 j hj, e2.2.2, (e1 i hij).2.2]
      exact Or.inr ⟨rfl, (low i hij).1⟩
    · have a := e1 i (by omega)
      have b := e1 j (by omega)
      rw [a.2.1, a.2.2, b.2.1, b.2.2]
      exact h.2.1 i j hij (by omega)
  · intro x' w hx hw
    by_cases e : x' = x
    · subst e
      rw [hd] at hw
      exact ⟨c, by omega, by rw [e2.1]; exact Option.some.inj hw, by rw [e2.2.1, e2.2.2]; exact Or.inr ⟨rfl, Nat.le_refl _⟩⟩
    · obtain ⟨j, hj, e, o⟩ := h.2.2.1 x' w (by omega) hw
      have a := e1 j hj
      exact ⟨j, by omega, by rw [a.1]; exact e, by rw [a.2.1, a.2.2]; exact o⟩
  · rw [ct_ins hn hm M hy, ← h.2.2.2.2.1]
  · intro j hj _
    rw [l0 j hj]; exact Or.inl (by omega)
end
section
variable {N : Nat}
/-- the reference's rows of the search; z0: the state as it was -/
def mi (B : Nat) (ini : Nat → Option Nat) (st : Nat → Nat → Option Nat) (z0 z : ql_Z) (q lv nm dg : Nat → Nat) (c k d : Nat) : Prop :=
  (∀ s, s < 26 → z.1 s = z0.1 s) ∧ z.2 = z0.2 ∧ z.1 31 0 = ii c ∧
  (∀ j, j < c → z.1 26 j = ii (q j) ∧ z.1 28 j = ii (dg j) ∧ z.1 29 j = ii (lv j) ∧ dg j < 12 ∧ ((z.1 27 j = -ii 1 ∧ nm j = dg j) ∨ ∃ i, i < j ∧ z.1 27 j = ii i ∧ nm j = 12 * nm i + dg j)) ∧
  (∀ y, y < 324 → (z.1 30 y = ii 0 ↔ ¬ bm q c y)) ∧ bi B ini st 324 q lv nm c k d
/-- what meets does with a pair: nothing, or one row more -/
theorem m_meets {z : ql_Z} {q : Nat → Nat} {c y : Nat} {o1 o2 : Option Nat} {x3 : Int32} {l d : Nat} (hc : z.1 31 0 = ii c) (hm : ∀ y, y < 324 → (z.1 30 y = ii 0 ↔ ¬ bm q c y)) (hcl : ¬ bm q c (18 * en o1 + en o2) → c < 324) (hy : y = 18 * en o1 + en o2) (h324 : y < 324) (hl : (x3 = -ii 1 ∧ l = 0) ∨ ∃ i l', i < 324 ∧ x3 = ii i ∧ z.1 29 i = ii l' ∧ l = l' + 1) :
    (cd y = none → f_X11_meets N z (em o1) (em o2) x3 (ii d) = some z) ∧ (cd y = some y → bm q c y → f_X11_meets N z (em o1) (em o2) x3 (ii d) = some z) ∧
    (cd y = some y → ¬ bm q c y → f_X11_meets N z (em o1) (em o2) x3 (ii d) = some (ql_up (ql_up (ql_up (ql_up (ql_up (ql_up z.1 26 (upd (z.1 26) c (ii y))) 27 (upd (z.1 27) c x3)) 28 (upd (z.1 28) c (ii d))) 30 (upd (z.1 30) y (ii 1))) 29 (upd (z.1 29) c (ii l))) 31 (fun _ => ii (c + 1)), z.2)) := by
  have ey : ii 18 * (em o1 + ii 1) + em o2 + ii 1 = ii y := by rw [em_2, ii_mul, em_1, hy]
  unfold f_X11_meets f_X11_meets_0 f_X11_meets_91
  simp only [lk_0, lk_1, lk_2, lk_3, lk_4, lk_5, lk_6, lk_7, lk_8, lk_9, lk_10, lk_11, lk_12, lk_13, lk_14, lk_15, lk_16, lk_17, lk_18, lk_19, lk_20, lk_21, lk_22, lk_23, lk_24, lk_25, lk_26, lk_31, lk_32, lk_68, lk_97, lk_100, lk_122, lk_200, lk_255, lk_299, lk_300, lk_301, lk_310, lk_324, lk_400, lk_800, lk_1000, lk_1600, lk_2000, lk_10000, ey, nb_1]
  unfold cd
  refine ⟨fun h => ?_, fun h hb => ?_, fun h hb => ?_⟩
  · have y0 : y = 0 := by
      refine Classical.byContradiction fun q => ?_
      rw [if_neg q] at h; cases h
    simp (disch := omega) only [ii_le, if_pos]
  · have y0 : y ≠ 0 := fun q => by rw [if_pos q] at h; cases h
    have hs : ¬ z.1 30 y = ii 0 := fun e => (hm y h324).mp e hb
    simp (disch := omega) only [ii_le, if_neg, ib_t, ii_nat]
  · have y0 : y ≠ 0 := fun q => by rw [if_pos q] at h; cases h
    have hs : z.1 30 y = ii 0 := (hm y h324).mpr hb
    have hcl := hcl (by rw [← hy]; exact hb)
    rcases hl with ⟨rfl, rfl⟩ | ⟨i, l', hi, rfl, e29, rfl⟩
    · simp (disch := omega) only [ii_add, ii_mul, ii_lt, ii_le, ii_eq, ii_nat, ib_t, ni_lt_ii, ni_le_ii, ii_lt_ni, ii_le_ni, ni_eq_ii, ii_eq_ni, ni_eq_ni, if_pos, if_neg, if_true, if_false, eq_self, and_self, not_true_eq_false, not_false_eq_true, bd_s, up_same, up_ne, ud_same, ud_ne, hs, hc]
    · simp (disch := omega) only [ii_add, ii_mul, ii_lt, ii_le, ii_eq, ii_nat, ib_t, ni_lt_ii, ni_le_ii, ii_lt_ni, ii_le_ni, ni_eq_ii, ii_eq_ni, ni_eq_ni, if_pos, if_neg, if_true, if_false, eq_self, and_self, not_true_eq_false, not_false_eq_true, bd_s, up_same, up_ne, ud_same, ud_ne, hs, hc, e29]
/-- the rows behind a push -/
theorem mi_up {B B' : Nat} {ini : Nat → Option Nat} {st : Nat → Nat → Option Nat} {z0 z : ql_Z} {q lv nm dg : Nat → Nat} {c k d k' d' y l e x : Nat} {x3 : Int32} (h : mi B ini st z0 z q lv nm dg c k d) (he : e < 12) (hx : (x3 = -ii 1 ∧ x = e) ∨ ∃ i, i < c ∧ x3 = ii i ∧ x = 12 * nm i + e)
    (hb : bi B' ini st 324 (fun j => if j = c then y else q j) (fun j => if j = c then l else lv j) (fun j => if j = c then x else nm j) (c + 1) k' d') :
    mi B' ini st z0 (ql_up (ql_up (ql_up (ql_up (ql_up (ql_up z.1 26 (upd (z.1 26) c (ii y))) 27 (upd (z.1 27) c x3)) 28 (upd (z.1 28) c (ii e))) 30 (upd (z.1 30) y (ii 1))) 29 (upd (z.1 29) c (ii l))) 31 (fun _ => ii (c + 1)), z.2)
      (fun j => if j = c then y else q j) (fun j => if j = c then l else lv j) (fun j => if j = c then x else nm j) (fun j => if j = c then e else dg j) (c + 1) k' d' := by
  refine ⟨fun s hs => ?_, h.2.1, ?_, fun j hj => ?_, fun y' hy' => ?_, hb⟩
  · simp (disch := omega) only [up_ne]
    exact h.1 s hs
  · simp (disch := omega) only [up_same]
  · by_cases q1 : j = c
    · subst q1
      simp (disch := omega) only [up_same, up_ne, ud_same, if_pos, if_true]
      refine ⟨trivial, trivial, trivial, he, ?_⟩
      rcases hx with ⟨rfl, rfl⟩ | ⟨i, hi, rfl, rfl⟩
      · exact Or.inl ⟨rfl, rfl⟩
      · refine Or.inr ⟨i, hi, rfl, ?_⟩
        rw [if_neg (by omega)]
    · have hj' : j < c := by omega
      obtain ⟨a1, a2, a3, a4, a5⟩ := h.2.2.2.1 j hj'
      simp (disch := omega) only [up_same, up_ne, ud_ne, if_neg]
      refine ⟨a1, a2, a3, a4, ?_⟩
      rcases a5 with a5 | ⟨i, hi, b1, b2⟩
      · exact Or.inl a5
      · refine Or.inr ⟨i, hi, b1, ?_⟩
        rw [if_neg (by omega)]; exact b2
  · have hm : bm (fun j => if j = c then y else q j) (c + 1) y' ↔ bm q c y' ∨ y' = y := by
      constructor
      · rintro ⟨j, hj, e⟩
        have e : (if j = c then y else q j) = y' := e
        by_cases q1 : j = c
        · rw [if_pos q1] at e; exact Or.inr e.symm
        · rw [if_neg q1] at e; exact Or.inl ⟨j, by omega, e⟩
      · rintro (⟨j, hj, e⟩ | e)
        · exact ⟨j, by omega, by show (if j = c then y else q j) = y'; rw [if_neg (by omega)]; exact e⟩
        · exact ⟨c, by omega, by show (if c = c then y else q c) = y'; rw [if_pos rfl]; exact e.symm⟩
    rw [hm]
    by_cases q1 : y' = y
    · subst q1
      simp (disch := omega) only [up_same, up_ne, ud_same, ii_eq]
      exact ⟨fun h => by omega, fun h => absurd (Or.inr trivial) h⟩
    · simp (disch := omega) only [up_same, up_ne, ud_ne]
      rw [h.2.2.2.2.1 y' hy']
      exact ⟨fun a b => by rcases b with b | b; exact a b; exact q1 b, fun a b => a (Or.inl b)⟩
theorem cd_self {y : Nat} (h : y ≠ 0) : cd y = some y := by unfold cd; rw [if_neg h]
theorem m_note {ini : Nat → Option Nat} {st : Nat → Nat → Option Nat} {z0 z : ql_Z} {q lv nm dg : Nat → Nat} {c k d : Nat} {o1 o2 : Option Nat} (h : mi 4 ini st z0 z q lv nm dg c k d) (hk : k < c) (hd : d < 12) (hy : 18 * en o1 + en o2 < 324) (hst : st (q k) d = cd (18 * en o1 + en o2)) :
    ∃ z' q' lv' nm' dg' c', f_X11_meets N z (em o1) (em o2) (ii k) (ii d) = some z' ∧ mi 4 ini st z0 z' q' lv' nm' dg' c' k (d + 1) ∧ c ≤ c' ∧ ∀ j, j < c → q' j = q j := by
  have b := h.2.2.2.2.2
  have hc := bi_c b
  have room : ¬ bm q c (18 * en o1 + en o2) → c < 324 := fun hm => by
    have := ct_room (S := bm q c) (m := 324) hy hm
    rw [← b.2.2.2.2.1] at this; exact this
  obtain ⟨m1, m2, m3⟩ := m_meets (N := N) (z := z) (q := q) (o1 := o1) (o2 := o2) (x3 := ii k) (d := d) h.2.2.1 h.2.2.2.2.1 room rfl hy (Or.inr ⟨k, lv k, by omega, rfl, (h.2.2.2.1 k hk).2.2.1, rfl⟩)
  by_cases y0 : 18 * en o1 + en o2 = 0
  · have e0 : cd (18 * en o1 + en o2) = none := by unfold cd; rw [if_pos y0]
    exact ⟨z, q, lv, nm, dg, c, m1 e0, ⟨h.1, h.2.1, h.2.2.1, h.2.2.2.1, h.2.2.2.2.1, bi_skip b hk (fun y hy => by rw [hst, e0] at hy; cases hy)⟩, Nat.le_refl _, fun _ _ => rfl⟩
  · have e0 := cd_self y0
    by_cases hm : bm q c (18 * en o1 + en o2)
    · exact ⟨z, q, lv, nm, dg, c, m2 e0 hm, ⟨h.1, h.2.1, h.2.2.1, h.2.2.2.1, h.2.2.2.2.1, bi_skip b hk (fun y hy => by rw [hst, e0] at hy; rw [← Option.some.inj hy]; exact hm)⟩, Nat.le_refl _, fun _ _ => rfl⟩
    · refine ⟨_, _, _, _, _, c + 1, m3 e0 hm, mi_up h hd (Or.inr ⟨k, hk, rfl, rfl⟩) ?_, by omega, fun j hj => if_neg (by omega)⟩
      exact bi_push b hk hd (by rw [hst, e0]) hy hm (fun j hj => ⟨if_neg (by omega), if_neg (by omega), if_neg (by omega)⟩) ⟨if_pos rfl, if_pos rfl, if_pos rfl⟩
theorem m_root {ini : Nat → Option Nat} {st : Nat → Nat → Option Nat} {z0 z : ql_Z} {q lv nm dg : Nat → Nat} {c x : Nat} {o1 o2 : Option Nat} (h : mi x ini st z0 z q lv nm dg c 0 0) (h0 : ∀ j, j < c → lv j = 0) (hx : x < 12) (hy : 18 * en o1 + en o2 < 324) (hst : ini x = cd (18 * en o1 + en o2)) :
    ∃ z' q' lv' nm' dg' c', f_X11_meets N z (em o1) (em o2) (-ii 1) (ii x) = some z' ∧ mi (x + 1) ini st z0 z' q' lv' nm' dg' c' 0 0 ∧ ∀ j, j < c' → lv' j = 0 := by
  have b := h.2.2.2.2.2
  have hc := bi_c b
  have room : ¬ bm q c (18 * en o1 + en o2) → c < 324 := fun hm => by
    have := ct_room (S := bm q c) (m := 324) hy hm
    rw [← b.2.2.2.2.1] at this; exact this
  obtain ⟨m1, m2, m3⟩ := m_meets (N := N) (z := z) (q := q) (o1 := o1) (o2 := o2) (x3 := -ii 1) (d := x) h.2.2.1 h.2.2.2.2.1 room rfl hy (Or.inl ⟨rfl, rfl⟩)
  by_cases y0 : 18 * en o1 + en o2 = 0
  · have e0 : cd (18 * en o1 + en o2) = none := by unfold cd; rw [if_pos y0]
    exact ⟨z, q, lv, nm, dg, c, m1 e0, ⟨h.1, h.2.1, h.2.2.1, h.2.2.2.1, h.2.2.2.2.1, bi_rs b h0 (fun y hy => by rw [hst, e0] at hy; cases hy)⟩, h0⟩
  · have e0 := cd_self y0
    by_cases hm : bm q c (18 * en o1 + en o2)
    · exact ⟨z, q, lv, nm, dg, c, m2 e0 hm, ⟨h.1, h.2.1, h.2.2.1, h.2.2.2.1, h.2.2.2.2.1, bi_rs b h0 (fun y hy => by rw [hst, e0] at hy; rw [← Option.some.inj hy]; exact hm)⟩, h0⟩
    · refine ⟨_, _, _, _, _, c + 1, m3 e0 hm, mi_up h hx (Or.inl ⟨rfl, rfl⟩) ?_, fun j hj => ?_⟩
      · exact bi_rp b h0 (by rw [hst, e0]) hy hm (fun j hj => ⟨if_neg (by omega), if_neg (by omega), if_neg (by omega)⟩) ⟨if_pos rfl, if_pos rfl, if_pos rfl⟩
      · show (if j = c then 0 else lv j) = 0
        by_cases q1 : j = c
        · rw [if_pos q1]
        · rw [if_neg q1]; exact h0 j (by omega)
end
