/-! the reference's code beside the one that is read: skip has no step there -/
def mm (g : cT) : Nat → Nat
  | 0 => 0
  | x + 1 => mm g x + (if cK g x = 0 ∧ cW g x = 15 then 0 else 1)
def us (g : cT) : Nat → Nat
  | 0 => 0
  | x + 1 => us g x + (if cK g x < 5 then 1 else 0)
def pcn (w : Nat) : Nat := w % 2 + w / 2 % 2 + w / 4 % 2 + w / 8 % 2
section
variable {g g' : cT}
theorem mm_le : ∀ x, mm g x ≤ x
  | 0 => Nat.le_refl _
  | x + 1 => by
    have := mm_le x
    show mm g x + (if cK g x = 0 ∧ cW g x = 15 then 0 else 1) ≤ x + 1
    by_cases q : cK g x = 0 ∧ cW g x = 15
    · rw [if_pos q]; omega
    · rw [if_neg q]; omega
theorem us_le : ∀ x, us g x ≤ x
  | 0 => Nat.le_refl _
  | x + 1 => by
    have := us_le x
    show us g x + (if cK g x < 5 then 1 else 0) ≤ x + 1
    by_cases q : cK g x < 5
    · rw [if_pos q]; omega
    · rw [if_neg q]; omega
theorem mm_c : ∀ x, (∀ y, y < x → cK g' y = cK g y ∧ cW g' y = cW g y) → mm g' x = mm g x
  | 0, _ => rfl
  | x + 1, h => by
    show mm g' x + (if cK g' x = 0 ∧ cW g' x = 15 then 0 else 1) = mm g x + (if cK g x = 0 ∧ cW g x = 15 then 0 else 1)
    rw [mm_c x (fun y hy => h y (by omega)), (h x (by omega)).1, (h x (by omega)).2]
theorem us_c : ∀ x, (∀ y, y < x → cK g' y = cK g y) → us g' x = us g x
  | 0, _ => rfl
  | x + 1, h => by
    show us g' x + (if cK g' x < 5 then 1 else 0) = us g x + (if cK g x < 5 then 1 else 0)
    rw [us_c x (fun y hy => h y (by omega)), h x (by omega)]
theorem mm_m {x : Nat} : ∀ d, mm g x ≤ mm g (x + d)
  | 0 => Nat.le_refl _
  | d + 1 => by
    have := mm_m (x := x) d
    show mm g x ≤ mm g (x + d) + _
    omega
theorem us_m {x : Nat} : ∀ d, us g x ≤ us g (x + d)
  | 0 => Nat.le_refl _
  | d + 1 => by
    have := us_m (x := x) d
    show us g x ≤ us g (x + d) + _
    omega
theorem mm_s {x : Nat} (h : ¬ (cK g x = 0 ∧ cW g x = 15)) : mm g (x + 1) = mm g x + 1 := by
  show mm g x + (if cK g x = 0 ∧ cW g x = 15 then 0 else 1) = _
  rw [if_neg h]
theorem mm_0 {x : Nat} (h : cK g x = 0 ∧ cW g x = 15) : mm g (x + 1) = mm g x := by
  show mm g x + (if cK g x = 0 ∧ cW g x = 15 then 0 else 1) = _
  rw [if_pos h]; rfl
theorem us_s {x : Nat} (h : cK g x < 5) : us g (x + 1) = us g x + 1 := by
  show us g x + (if cK g x < 5 then 1 else 0) = _
  rw [if_pos h]
theorem us_0 {x : Nat} (h : ¬ cK g x < 5) : us g (x + 1) = us g x := by
  show us g x + (if cK g x < 5 then 1 else 0) = _
  rw [if_neg h]; rfl
theorem mm_lt {x y : Nat} (h : ¬ (cK g x = 0 ∧ cW g x = 15)) (hxy : x < y) : mm g x < mm g y := by
  have a := mm_s h
  have b := mm_m (g := g) (x := x + 1) (y - (x + 1))
  rw [show x + 1 + (y - (x + 1)) = y by omega] at b
  omega
theorem us_lt {x y : Nat} (h : cK g x < 5) (hxy : x < y) : us g x < us g y := by
  have a := us_s (g := g) h
  have b := us_m (g := g) (x := x + 1) (y - (x + 1))
  rw [show x + 1 + (y - (x + 1)) = y by omega] at b
  omega
end
/-- a step, at z's place o + its number -/
def sr1 (z : ql_St) (o : Nat) (g : cT) (x : Nat) : Prop :=
  (cK g x = 0 ∧ cW g x = 15) ∨
  (cK g x = 0 ∧ cW g x = 0 ∧ cJ g x = none ∧ z 3 (o + mm g x) = ii 3) ∨
  (cK g x = 1 ∧ ∃ t, cJ g x = some t ∧ z 3 (o + mm g x) = ii 0 ∧ z 4 (o + mm g x) = ii t) ∨
  ((cK g x = 2 ∨ cK g x = 3) ∧ z 3 (o + mm g x) = ii 1 ∧ z 4 (o + mm g x) = ii (cW g x) ∧ ∀ t, cJ g x = some t → z 5 (o + mm g x) = ii (mm g t)) ∨
  (cK g x = 4 ∧ cJ g x = none ∧ z 3 (o + mm g x) = ii 1 ∧ z 4 (o + mm g x) = ii (cW g x) ∧ z 5 (o + mm g x) = -ii 1) ∨
  (cK g x = 5 ∧ cW g x = 0 ∧ z 3 (o + mm g x) = ii 2 ∧ ∀ t, cJ g x = some t → z 5 (o + mm g x) = ii (mm g t))
/-- a statement -/
def st1 (z : ql_St) (o : Nat) (g : cT) (x : Nat) : Prop :=
  cK g x < 5 → z 10 (o + us g x) = ii (cK g x) ∧ (cK g x = 1 → ∃ t, cJ g x = some t ∧ z 11 (o + us g x) = ii (cA g t)) ∧ (cK g x = 2 ∨ cK g x = 3 ∨ cK g x = 4 → z 11 (o + us g x) = ii (pcn (cW g x)))
/-- the reference's new program beside a code -/
def mz (z : ql_St) (g : cT) : Prop :=
  z 6 4 = ii (mm g (cS g)) ∧ z 9 4 = ii (cN g) ∧ z 12 4 = ii (us g (cS g)) ∧ (∀ x, x < cS g → sr1 z 1600 g x ∧ st1 z 800 g x) ∧
  (∀ q, 1 ≤ q → q ≤ cN g → z 7 (68 + q) = ii (cA g q) ∧ z 8 (68 + q) = ii (mm g (cB g q)) ∧ cB g q ≤ cS g ∧ 1 ≤ cA g q ∧ cA g q ≤ 3) ∧
  (∀ x t, x < cS g → cJ g x = some t → (cK g x = 1 → 1 ≤ t ∧ t ≤ cN g) ∧ (cK g x ≠ 1 → t ≤ cS g))
/-- one step more -/
theorem mz_ad {z z' : ql_St} {g : cT} {k w : Nat} {j : Option Nat} (h : mz z g) (hk1 : k ≠ 1) (hj : ∀ t, j = some t → t ≤ cS g)
    (e3 : ∀ y, y < mm g (cS g) → z' 3 (1600 + y) = z 3 (1600 + y) ∧ z' 4 (1600 + y) = z 4 (1600 + y) ∧ z' 5 (1600 + y) = z 5 (1600 + y)) (e10 : ∀ u, u < us g (cS g) → z' 10 (800 + u) = z 10 (800 + u) ∧ z' 11 (800 + u) = z 11 (800 + u))
    (e7 : z' 7 = z 7) (e8 : z' 8 = z 8) (e9 : z' 9 = z 9) (e6 : z' 6 4 = ii (mm (ad g k w j) (cS g + 1))) (e12 : z' 12 4 = ii (us (ad g k w j) (cS g + 1))) (hs : sr1 z' 1600 (ad g k w j) (cS g)) (hst : st1 z' 800 (ad g k w j) (cS g)) : mz z' (ad g k w j) := by
  have kc : ∀ y, y < cS g → cK (ad g k w j) y = cK g y ∧ cW (ad g k w j) y = cW g y := fun y hy => ⟨un_n (by omega), un_n (by omega)⟩
  have mc' : ∀ x, x ≤ cS g → mm (ad g k w j) x = mm g x := fun x hx => mm_c x (fun y hy => kc y (by omega))
  have uc' : ∀ x, x ≤ cS g → us (ad g k w j) x = us g x := fun x hx => us_c x (fun y hy => (kc y (by omega)).1)
  have jc : ∀ x, x < cS g → cJ (ad g k w j) x = cJ g x := fun x hx => un_n (by omega)
  refine ⟨e6, by rw [e9]; exact h.2.1, e12, fun x hx => ?_, fun q q1 q2 => ?_, fun x t hx ht => ?_⟩
  · by_cases q : x = cS g
    · subst q; exact ⟨hs, hst⟩
    · have hx : x < cS g := by have : x < cS g + 1 := hx; omega
      obtain ⟨a, b⟩ := h.2.2.2.1 x hx
      obtain ⟨kx, wx⟩ := kc x hx
      have jx := jc x hx
      have mx := mc' x (by omega)
      have ux := uc' x (by omega)
      have tj : ∀ t, cJ g x = some t → cK g x ≠ 1 → mm (ad g k w j) t = mm g t := fun t e n => mc' t ((h.2.2.2.2.2 x t hx e).2 n)
      have ar : ¬ (cK g x = 0 ∧ cW g x = 15) → z' 3 (1600 + mm g x) = z 3 (1600 + mm g x) ∧ z' 4 (1600 + mm g x) = z 4 (1600 + mm g x) ∧ z' 5 (1600 + mm g x) = z 5 (1600 + mm g x) := fun n => e3 _ (mm_lt n hx)
      refine ⟨?_, ?_⟩
      · unfold sr1
        rw [kx, wx, jx, mx]
        rcases a with a | ⟨a1, a2, a3, a4⟩ | ⟨a1, t, a2, a3, a4⟩ | ⟨a1, a2, a3, a4⟩ | ⟨a1, a2, a3, a4, a5⟩ | ⟨a1, a2, a3, a4⟩
        · exact Or.inl a
        · obtain ⟨r1, r2, r3⟩ := ar (by omega)
          exact Or.inr (Or.inl ⟨a1, a2, a3, r1.trans a4⟩)
        · obtain ⟨r1, r2, r3⟩ := ar (by omega)
          exact Or.inr (Or.inr (Or.inl ⟨a1, t, a2, r1.trans a3, r2.trans a4⟩))
        · obtain ⟨r1, r2, r3⟩ := ar (by omega)
          exact Or.inr (Or.inr (Or.inr (Or.inl ⟨a1, r1.trans a2, r2.trans a3, fun t e => by rw [tj t e (by omega)]; exact r3.trans (a4 t e)⟩)))
        · obtain ⟨r1, r2, r3⟩ := ar (by omega)
          exact Or.inr (Or.inr (Or.inr (Or.inr (Or.inl ⟨a1, a2, r1.trans a3, r2.trans a4, r3.trans a5⟩))))
        · obtain ⟨r1, r2, r3⟩ := ar (by omega)
          exact Or.inr (Or.inr (Or.inr (Or.inr (Or.inr ⟨a1, a2, r1.trans a3, fun t e => by rw [tj t e (by omega)]; exact r3.trans (a4 t e)⟩))))
      · intro h5
        rw [kx] at h5
        obtain ⟨b1, b2, b3⟩ := b h5
        obtain ⟨r1, r2⟩ := e10 _ (us_lt h5 hx)
        rw [kx, ux, wx, jx]
        refine ⟨r1.trans b1, fun e => ?_, fun e => r2.trans (b3 e)⟩
        obtain ⟨t, c1, c2⟩ := b2 e
        exact ⟨t, c1, r2.trans c2⟩
  · obtain ⟨a1, a2, a3, a4⟩ := h.2.2.2.2.1 q q1 q2
    refine ⟨by rw [e7]; exact a1, ?_, by show cB g q ≤ cS g + 1; omega, a4⟩
    rw [e8, a2]
    show _ = ii (mm (ad g k w j) (cB g q))
    rw [mc' _ a3]
  · by_cases q : x = cS g
    · subst q
      have ej : cJ (ad g k w j) (cS g) = j := un_s _ _ _
      have ek : cK (ad g k w j) (cS g) = k := un_s _ _ _
      rw [ej] at ht
      rw [ek]
      exact ⟨fun e => absurd e hk1, fun _ => by show t ≤ cS g + 1; have := hj t ht; omega⟩
    · have hx : x < cS g := by have : x < cS g + 1 := hx; omega
      rw [jc x hx] at ht
      rw [(kc x hx).1]
      obtain ⟨a1, a2⟩ := h.2.2.2.2.2 x t hx ht
      exact ⟨a1, fun n => by show t ≤ cS g + 1; have := a2 n; omega⟩
/-- where to, filled in -/
theorem mz_pj {z : ql_St} {g : cT} {s : Nat} (h : mz z g) (hs : s < cS g) (hk : cK g s = 2 ∨ cK g s = 3 ∨ cK g s = 5) : mz (ql_up z 5 (upd (z 5) (1600 + mm g s) (ii (mm g (cS g))))) (pj g s (cS g)) := by
  have mc' : ∀ x, mm (pj g s (cS g)) x = mm g x := fun x => mm_c x (fun y hy => ⟨rfl, rfl⟩)
  have uc' : ∀ x, us (pj g s (cS g)) x = us g x := fun x => us_c x (fun y hy => rfl)
  have ns : ¬ (cK g s = 0 ∧ cW g s = 15) := by omega
  refine ⟨by rw [mc']; exact h.1, h.2.1, by rw [uc']; exact h.2.2.1, fun x hx => ?_, fun q q1 q2 => ?_, fun x t hx ht => ?_⟩
  · obtain ⟨a, b⟩ := h.2.2.2.1 x hx
    have e5 : ∀ x, x ≠ s → ¬ (cK g x = 0 ∧ cW g x = 15) → upd (z 5) (1600 + mm g s) (ii (mm g (cS g))) (1600 + mm g x) = z 5 (1600 + mm g x) := fun x hxs n => by
      refine ud_ne ?_
      rcases Nat.lt_or_gt_of_ne hxs with l | l
      · have := mm_lt n l; omega
      · have := mm_lt ns l; omega
    refine ⟨?_, ?_⟩
    · unfold sr1
      rw [mc']
      show (cK g x = 0 ∧ cW g x = 15) ∨ (cK g x = 0 ∧ cW g x = 0 ∧ un (cJ g) s (some (cS g)) x = none ∧ z 3 (1600 + mm g x) = ii 3) ∨ (cK g x = 1 ∧ ∃ t, un (cJ g) s (some (cS g)) x = some t ∧ z 3 (1600 + mm g x) = ii 0 ∧ z 4 (1600 + mm g x) = ii t) ∨ ((cK g x = 2 ∨ cK g x = 3) ∧ z 3 (1600 + mm g x) = ii 1 ∧ z 4 (1600 + mm g x) = ii (cW g x) ∧ ∀ t, un (cJ g) s (some (cS g)) x = some t → upd (z 5) (1600 + mm g s) (ii (mm g (cS g))) (1600 + mm g x) = ii (mm (pj g s (cS g)) t)) ∨ (cK g x = 4 ∧ un (cJ g) s (some (cS g)) x = none ∧ z 3 (1600 + mm g x) = ii 1 ∧ z 4 (1600 + mm g x) = ii (cW g x) ∧ upd (z 5) (1600 + mm g s) (ii (mm g (cS g))) (1600 + mm g x) = -ii 1) ∨ (cK g x = 5 ∧ cW g x = 0 ∧ z 3 (1600 + mm g x) = ii 2 ∧ ∀ t, un (cJ g) s (some (cS g)) x = some t → upd (z 5) (1600 + mm g s) (ii (mm g (cS g))) (1600 + mm g x) = ii (mm (pj g s (cS g)) t))
      by_cases q : x = s
      · rw [q, un_s, ud_same]
        rw [q] at a
        have fin : ∀ t, some (cS g) = some t → ii (mm g (cS g)) = ii (mm (pj g s (cS g)) t) := fun t e => by
          injection e with e; rw [← e, mc']
        rcases a with a | ⟨a1, _⟩ | ⟨a1, _⟩ | ⟨a1, a2, a3, a4⟩ | ⟨a1, _⟩ | ⟨a1, a2, a3, a4⟩
        · omega
        · omega
        · omega
        · exact Or.inr (Or.inr (Or.inr (Or.inl ⟨a1, a2, a3, fin⟩)))
        · omega
        · exact Or.inr (Or.inr (Or.inr (Or.inr (Or.inr ⟨a1, a2, a3, fin⟩))))
      · rw [un_n q]
        rcases a with a | ⟨a1, a2, a3, a4⟩ | ⟨a1, t, a2, a3, a4⟩ | ⟨a1, a2, a3, a4⟩ | ⟨a1, a2, a3, a4, a5⟩ | ⟨a1, a2, a3, a4⟩
        · exact Or.inl a
        · exact Or.inr (Or.inl ⟨a1, a2, a3, a4⟩)
        · exact Or.inr (Or.inr (Or.inl ⟨a1, t, a2, a3, a4⟩))
        · exact Or.inr (Or.inr (Or.inr (Or.inl ⟨a1, a2, a3, fun t e => by rw [e5 x q (by omega), mc']; exact a4 t e⟩)))
        · exact Or.inr (Or.inr (Or.inr (Or.inr (Or.inl ⟨a1, a2, a3, a4, by rw [e5 x q (by omega)]; exact a5⟩))))
        · exact Or.inr (Or.inr (Or.inr (Or.inr (Or.inr ⟨a1, a2, a3, fun t e => by rw [e5 x q (by omega), mc']; exact a4 t e⟩))))
    · intro h5
      obtain ⟨b1, b2, b3⟩ := b h5
      rw [uc']
      refine ⟨b1, fun e => ?_, b3⟩
      have e : cK g x = 1 := e
      obtain ⟨t, c1, c2⟩ := b2 e
      refine ⟨t, ?_, c2⟩
      show un (cJ g) s (some (cS g)) x = some t
      rw [un_n (fun y => by rw [y] at e; omega)]; exact c1
  · obtain ⟨a1, a2, a3, a4⟩ := h.2.2.2.2.1 q q1 q2
    exact ⟨a1, by rw [mc']; exact a2, a3, a4⟩
  · have ht : un (cJ g) s (some (cS g)) x = some t := ht
    by_cases q : x = s
    · rw [q, un_s] at ht
      injection ht with ht
      rw [q]
      exact ⟨fun e => by have e : cK g s = 1 := e; omega, fun _ => by rw [← ht]; exact Nat.le_refl _⟩
    · rw [un_n q] at ht
      exact h.2.2.2.2.2 x t hx ht
