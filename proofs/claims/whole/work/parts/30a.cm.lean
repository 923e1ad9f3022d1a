/-! the two codes beside each other, once a program is read -/
theorem mm_sur {g : cT} : ∀ S y, y < mm g S → ∃ x, x < S ∧ mm g x = y ∧ ¬ (cK g x = 0 ∧ cW g x = 15)
  | 0, y, h => absurd h (Nat.not_lt_zero y)
  | S + 1, y, h => by
    by_cases q : cK g S = 0 ∧ cW g S = 15
    · rw [mm_0 q] at h
      obtain ⟨x, a1, a2⟩ := mm_sur S y h
      exact ⟨x, by omega, a2⟩
    · rw [mm_s q] at h
      by_cases y1 : y = mm g S
      · exact ⟨S, by omega, y1.symm, q⟩
      · obtain ⟨x, a1, a2⟩ := mm_sur (g := g) S y (by omega)
        exact ⟨x, by omega, a2⟩
def dD (z : ql_St) (y : Nat) : Nat := (z 3 (1600 + y)).toNatClampNeg
def dV (z : ql_St) (y : Nat) : Int32 := z 4 (1600 + y)
def dL (z : ql_St) (y : Nat) : Option Nat := some (z 4 (1600 + y)).toNatClampNeg
def dQ (z : ql_St) (y : Nat) : Option Nat := if z 5 (1600 + y) = -ii 1 then none else some (z 5 (1600 + y)).toNatClampNeg
theorem dQ_n {z : ql_St} {y : Nat} (h : z 5 (1600 + y) = -ii 1) : dQ z y = none := if_pos h
theorem dQ_s {z : ql_St} {y t : Nat} (ht : t < 2147483648) (h : z 5 (1600 + y) = ii t) : dQ z y = some t := by
  unfold dQ
  rw [h, if_neg (fun x => by have := (ii_eq_ni (a := 1) (b := t) (by omega) (by omega)).mp x; omega), ii_nat ht]
/-- the reference's program is in order, with its end -/
theorem cm_of {z : ql_Z} {g : cT} {c k : Nat} (h : mz z.1 g) (hg : gok c k g) (hc : c ≤ 300) (hf : ∀ x, x < cS g → flo g x) :
    cm (cK g) (fun x => ii (cW g x)) (cJ g) (cS g) (dD (zp z (mm g (cS g)) (ii 4) (ii 0) (ii 0)).1) (dV (zp z (mm g (cS g)) (ii 4) (ii 0) (ii 0)).1) (dL (zp z (mm g (cS g)) (ii 4) (ii 0) (ii 0)).1) (dQ (zp z (mm g (cS g)) (ii 4) (ii 0) (ii 0)).1) (mm g) := by
  have hk := hg.1
  have hk2 := hg.2.2
  have hn := hg.2.1
  have hS := mm_le (g := g) (cS g)
  have z3 : ∀ y, y < mm g (cS g) → (zp z (mm g (cS g)) (ii 4) (ii 0) (ii 0)).1 3 (1600 + y) = z.1 3 (1600 + y) ∧ (zp z (mm g (cS g)) (ii 4) (ii 0) (ii 0)).1 4 (1600 + y) = z.1 4 (1600 + y) ∧ (zp z (mm g (cS g)) (ii 4) (ii 0) (ii 0)).1 5 (1600 + y) = z.1 5 (1600 + y) := fun y hy => ⟨by
    show upd (z.1 3) (1600 + mm g (cS g)) _ (1600 + y) = _
    rw [ud_ne (by omega)], by
    show upd (z.1 4) (1600 + mm g (cS g)) _ (1600 + y) = _
    rw [ud_ne (by omega)], by
    show upd (z.1 5) (1600 + mm g (cS g)) _ (1600 + y) = _
    rw [ud_ne (by omega)]⟩
  have e3 : (zp z (mm g (cS g)) (ii 4) (ii 0) (ii 0)).1 3 (1600 + mm g (cS g)) = ii 4 := by
    show upd (z.1 3) (1600 + mm g (cS g)) (ii 4) (1600 + mm g (cS g)) = _
    rw [ud_same]
  generalize (zp z (mm g (cS g)) (ii 4) (ii 0) (ii 0)).1 = w at *
  have dd : ∀ y n, n < 5 → w 3 (1600 + y) = ii n → dD w y = n := fun y n hn h => by
    unfold dD
    rw [h, ii_nat (by omega)]
  refine ⟨fun x hx => ?_, dd _ 4 (by omega) e3⟩
  obtain ⟨a, _⟩ := h.2.2.2.1 x hx
  have jl := h.2.2.2.2.2 x
  have mt' : ∀ t, cJ g x = some t → cK g x ≠ 1 → mm g t < 2147483648 := fun t e n => by
    have := (jl t hx e).2 n
    have := mm_le (g := g) t
    omega
  by_cases sk : cK g x = 0 ∧ cW g x = 15
  · exact Or.inl ⟨sk.1, by show ii (cW g x) = _; rw [sk.2], mm_0 sk⟩
  have ml := mm_lt sk hx
  obtain ⟨r3, r4, r5⟩ := z3 _ ml
  rcases a with a | ⟨a1, a2, a3, a4⟩ | ⟨a1, t, a2, a3, a4⟩ | ⟨a1, a2, a3, a4⟩ | ⟨a1, a2, a3, a4, a5⟩ | ⟨a1, a2, a3, a4⟩
  · exact absurd a sk
  · exact Or.inr (Or.inl ⟨a1, by show ii (cW g x) = _; rw [a2], a3, dd _ 3 (by omega) (r3.trans a4)⟩)
  · refine Or.inr (Or.inr (Or.inl ⟨a1, dd _ 0 (by omega) (r3.trans a3), ?_⟩))
    have := ((jl t hx a2).1 a1).2
    unfold dL
    rw [r4, a4, a2, ii_nat (by omega)]
  · obtain ⟨t, et⟩ := (hf x hx).2 (by omega)
    refine Or.inr (Or.inr (Or.inr (Or.inl ⟨by omega, dd _ 1 (by omega) (r3.trans a2), r4.trans a3, mm_s sk, ?_, fun t e => (jl t hx e).2 (by omega)⟩)))
    rw [dQ_s (mt' t et (by omega)) (r5.trans (a4 t et)), et]; rfl
  · refine Or.inr (Or.inr (Or.inr (Or.inl ⟨by omega, dd _ 1 (by omega) (r3.trans a3), r4.trans a4, mm_s sk, ?_, fun t e => by rw [a2] at e; cases e⟩)))
    rw [dQ_n (r5.trans a5), a2]; rfl
  · obtain ⟨t, et⟩ := (hf x hx).2 (by omega)
    refine Or.inr (Or.inr (Or.inr (Or.inr ⟨by omega, by show ii (cW g x) = _; rw [a2], dd _ 2 (by omega) (r3.trans a3), ?_, t, (jl t hx et).2 (by omega), et⟩)))
    rw [dQ_s (mt' t et (by omega)) (r5.trans (a4 t et)), et]; rfl
