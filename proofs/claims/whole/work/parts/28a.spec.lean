/-! statements: what is read. A code: kinds, atoms, where to, how many steps; how many places, the step behind each, its act -/
abbrev cT : Type := (Nat → Nat) × (Nat → Nat) × (Nat → Option Nat) × Nat × Nat × (Nat → Nat) × (Nat → Nat)
def un {α : Type} (f : Nat → α) (k : Nat) (x : α) : Nat → α := fun j => if j = k then x else f j
theorem un_s {α : Type} (f : Nat → α) (k : Nat) (x : α) : un f k x k = x := if_pos rfl
theorem un_n {α : Type} {f : Nat → α} {k j : Nat} {x : α} (h : j ≠ k) : un f k x j = f j := if_neg h
abbrev cK (g : cT) : Nat → Nat := g.1
abbrev cW (g : cT) : Nat → Nat := g.2.1
abbrev cJ (g : cT) : Nat → Option Nat := g.2.2.1
abbrev cS (g : cT) : Nat := g.2.2.2.1
abbrev cN (g : cT) : Nat := g.2.2.2.2.1
abbrev cB (g : cT) : Nat → Nat := g.2.2.2.2.2.1
abbrev cA (g : cT) : Nat → Nat := g.2.2.2.2.2.2
def ad (g : cT) (k w : Nat) (j : Option Nat) : cT := (un (cK g) (cS g) k, un (cW g) (cS g) w, un (cJ g) (cS g) j, cS g + 1, cN g, cB g, cA g)
def pj (g : cT) (s t : Nat) : cT := (cK g, cW g, un (cJ g) s (some t), cS g, cN g, cB g, cA g)
def pl (g : cT) (a : Nat) : cT := (un (cK g) (cS g) 1, un (cW g) (cS g) 15, un (cJ g) (cS g) (some (cN g + 1)), cS g + 1, cN g + 1, un (cB g) (cN g + 1) (cS g + 1), un (cA g) (cN g + 1) a)
abbrev cR : Type := Bool × Nat × cT
section
variable (tk : Nat → Nat)
def qL (r1 : Nat → Nat → cT → cR) (o : Nat) : Nat → Nat → cT → cR
  | 0, k, g => (true, k, g)
  | f + 1, k, g => if tk k = 17 then (if (r1 o (k + 1) g).1 = true then qL r1 o f (r1 o (k + 1) g).2.1 (r1 o (k + 1) g).2.2 else (false, (r1 o (k + 1) g).2.1, g)) else (true, k, g)
/-- STATEMENTS -/
def qs (r1 : Nat → Nat → cT → cR) (o k : Nat) (g : cT) : cR := if (r1 o k g).1 = true then qL tk r1 o 300 (r1 o k g).2.1 (r1 o k g).2.2 else (false, (r1 o k g).2.1, g)
/-- if, from its word on -/
def qC (r1 : Nat → Nat → cT → cR) (o k : Nat) (g : cT) : cR :=
  if (pt tk o (k + 1)).1 = true then (if tk (pt tk o (k + 1)).2.2 = 3 then
    (fun r : cR => if r.1 = true then (if tk r.2.1 = 4 then
        (fun r2 : cR => if r2.1 = true then (if tk r2.2.1 = 5 then (true, r2.2.1 + 1, pj r2.2.2 (cS r.2.2) (cS r2.2.2)) else (false, r2.2.1, g)) else (false, r2.2.1, g)) (qs tk r1 o (r.2.1 + 1) (pj (ad r.2.2 5 0 none) (cS g) (cS r.2.2 + 1)))
      else if tk r.2.1 = 5 then (true, r.2.1 + 1, pj r.2.2 (cS g) (cS r.2.2)) else (false, r.2.1, g)) else (false, r.2.1, g)) (qs tk r1 o ((pt tk o (k + 1)).2.2 + 1) (ad g 2 (pt tk o (k + 1)).2.1 none))
  else (false, (pt tk o (k + 1)).2.2, g)) else (false, (pt tk o (k + 1)).2.2, g)
/-- while -/
def qW (r1 : Nat → Nat → cT → cR) (o k : Nat) (g : cT) : cR :=
  if (pt tk o (k + 1)).1 = true then (if tk (pt tk o (k + 1)).2.2 = 7 then
    (fun r : cR => if r.1 = true then (if tk r.2.1 = 8 then (true, r.2.1 + 1, pj (ad r.2.2 5 0 (some (cS g))) (cS g) (cS r.2.2 + 1)) else (false, r.2.1, g)) else (false, r.2.1, g)) (qs tk r1 o ((pt tk o (k + 1)).2.2 + 1) (ad g 3 (pt tk o (k + 1)).2.1 none))
  else (false, (pt tk o (k + 1)).2.2, g)) else (false, (pt tk o (k + 1)).2.2, g)
/-- a STATEMENT -/
def q1 : Nat → Nat → Nat → cT → cR
  | 0, _, k, g => (false, k, g)
  | d + 1, o, k, g =>
    if tk k = 0 then (true, k + 1, ad g 0 15 none) else if tk k = 1 then (true, k + 1, ad g 0 0 none)
    else if tk k = 2 then (if 8 ≤ o then (false, k, g) else qC tk (q1 d) (o + 1) k g)
    else if tk k = 6 then (if 8 ≤ o then (false, k, g) else qW tk (q1 d) (o + 1) k g)
    else if tk k = 9 then (if (pt tk o (k + 1)).1 = true then (true, (pt tk o (k + 1)).2.2, ad g 4 (pt tk o (k + 1)).2.1 none) else (false, (pt tk o (k + 1)).2.2, g))
    else if tk k = 12 ∨ tk k = 13 ∨ tk k = 14 then (if cN g < 16 then (true, k + 1, pl g (tk k - 11)) else (false, k, g))
    else (false, k, g)
end
/-- a code is sound at the k-th token -/
def gok (c k : Nat) (g : cT) : Prop := cS g ≤ k ∧ cN g ≤ 16 ∧ k ≤ c
/-- what a reading of statements leaves: it goes on, nothing that was read before changes -/
def rq (c k : Nat) (g : cT) (r : cR) : Prop := r.2.1 ≤ c ∧ k ≤ r.2.1 ∧ (r.1 = true → k < r.2.1 ∧ gok c r.2.1 r.2.2 ∧ cS g < cS r.2.2)
section
variable {tk : Nat → Nat} {c : Nat}
theorem qL_rq (ht : te_ok tk c) {r1 : Nat → Nat → cT → cR} {o : Nat} (h1 : ∀ k g, gok c k g → rq c k g (r1 o k g)) : ∀ f k g, gok c k g → (qL tk r1 o f k g).2.1 ≤ c ∧ k ≤ (qL tk r1 o f k g).2.1 ∧ ((qL tk r1 o f k g).1 = true → gok c (qL tk r1 o f k g).2.1 (qL tk r1 o f k g).2.2 ∧ cS g ≤ cS (qL tk r1 o f k g).2.2) := by
  intro f
  induction f with
  | zero => intro k g hg; exact ⟨hg.2.2, Nat.le_refl _, fun _ => ⟨hg, Nat.le_refl _⟩⟩
  | succ f ih =>
    intro k g hg
    rw [qL]
    by_cases c1 : tk k = 17
    · rw [if_pos c1]
      have hne : k ≠ c := fun x => by rw [x, ht.2.1] at c1; omega
      obtain ⟨a1, a2, a3⟩ := h1 (k + 1) g ⟨by have := hg.1; omega, hg.2.1, by have := hg.2.2; omega⟩
      by_cases q : (r1 o (k + 1) g).1 = true
      · rw [if_pos q]
        obtain ⟨b1, b2, b3⟩ := a3 q
        obtain ⟨d1, d2, d3⟩ := ih _ _ b2
        exact ⟨d1, by omega, fun hx => ⟨(d3 hx).1, by have := (d3 hx).2; omega⟩⟩
      · rw [if_neg q]
        exact ⟨a1, by show k ≤ (r1 o (k + 1) g).2.1; omega, fun hx => by cases hx⟩
    · rw [if_neg c1]
      exact ⟨hg.2.2, Nat.le_refl _, fun _ => ⟨hg, Nat.le_refl _⟩⟩
theorem qs_rq (ht : te_ok tk c) {r1 : Nat → Nat → cT → cR} {o : Nat} (h1 : ∀ k g, gok c k g → rq c k g (r1 o k g)) {k : Nat} {g : cT} (hg : gok c k g) : rq c k g (qs tk r1 o k g) := by
  unfold qs
  obtain ⟨a1, a2, a3⟩ := h1 k g hg
  by_cases q : (r1 o k g).1 = true
  · rw [if_pos q]
    obtain ⟨b1, b2, b3⟩ := a3 q
    obtain ⟨d1, d2, d3⟩ := qL_rq ht h1 300 _ _ b2
    exact ⟨d1, by omega, fun hx => ⟨by omega, (d3 hx).1, by have := (d3 hx).2; omega⟩⟩
  · rw [if_neg q]
    exact ⟨a1, a2, fun hx => by cases hx⟩
theorem rq_f {k k' : Nat} {g : cT} (h1 : k' ≤ c) (h2 : k ≤ k') : rq c k g (false, k', g) := ⟨h1, h2, fun hx => by cases hx⟩
theorem qC_rq (ht : te_ok tk c) {r1 : Nat → Nat → cT → cR} {o : Nat} (h1 : ∀ k g, gok c k g → rq c k g (r1 o k g)) {k : Nat} {g : cT} (hg : gok c k g) (hk : k < c) : rq c k g (qC tk r1 o k g) := by
  unfold qC
  obtain ⟨t1, t2, t3, t4⟩ := pt_ro ht (o := o) (show k + 1 ≤ c by omega)
  by_cases q : (pt tk o (k + 1)).1 = true
  · rw [if_pos q]
    have t4 := t4 q
    by_cases q3 : tk (pt tk o (k + 1)).2.2 = 3
    · rw [if_pos q3]
      have hne : (pt tk o (k + 1)).2.2 ≠ c := fun x => by rw [x, ht.2.1] at q3; omega
      have hr := qs_rq ht h1 (k := (pt tk o (k + 1)).2.2 + 1) (g := ad g 2 (pt tk o (k + 1)).2.1 none) ⟨by show cS g + 1 ≤ _; have := hg.1; omega, hg.2.1, by omega⟩
      generalize qs tk r1 o ((pt tk o (k + 1)).2.2 + 1) (ad g 2 (pt tk o (k + 1)).2.1 none) = r at hr
      obtain ⟨a1, a2, a3⟩ := hr
      show rq c k g (if r.1 = true then _ else _)
      by_cases c1 : r.1 = true
      · rw [if_pos c1]
        obtain ⟨b1, b2, b3⟩ := a3 c1
        have b3 : cS g + 1 < cS r.2.2 := b3
        by_cases c4 : tk r.2.1 = 4
        · rw [if_pos c4]
          have hne2 : r.2.1 ≠ c := fun x => by rw [x, ht.2.1] at c4; omega
          have hr2 := qs_rq ht h1 (k := r.2.1 + 1) (g := pj (ad r.2.2 5 0 none) (cS g) (cS r.2.2 + 1)) ⟨by show cS r.2.2 + 1 ≤ _; have := b2.1; omega, b2.2.1, by omega⟩
          generalize qs tk r1 o (r.2.1 + 1) (pj (ad r.2.2 5 0 none) (cS g) (cS r.2.2 + 1)) = r2 at hr2
          obtain ⟨d1, d2, d3⟩ := hr2
          show rq c k g (if r2.1 = true then _ else _)
          by_cases c2 : r2.1 = true
          · rw [if_pos c2]
            obtain ⟨e1, e2, e3⟩ := d3 c2
            have e3 : cS r.2.2 + 1 < cS r2.2.2 := e3
            by_cases c5 : tk r2.2.1 = 5
            · rw [if_pos c5]
              have hne3 : r2.2.1 ≠ c := fun x => by rw [x, ht.2.1] at c5; omega
              exact ⟨by show r2.2.1 + 1 ≤ c; omega, by show k ≤ r2.2.1 + 1; omega, fun _ => ⟨by show k < r2.2.1 + 1; omega, ⟨by show cS r2.2.2 ≤ r2.2.1 + 1; have := e2.1; omega, e2.2.1, by show r2.2.1 + 1 ≤ c; omega⟩, by show cS g < cS r2.2.2; omega⟩⟩
            · rw [if_neg c5]; exact rq_f d1 (by omega)
          · rw [if_neg c2]; exact rq_f d1 (by omega)
        · rw [if_neg c4]
          by_cases c5 : tk r.2.1 = 5
          · rw [if_pos c5]
            have hne3 : r.2.1 ≠ c := fun x => by rw [x, ht.2.1] at c5; omega
            exact ⟨by show r.2.1 + 1 ≤ c; omega, by show k ≤ r.2.1 + 1; omega, fun _ => ⟨by show k < r.2.1 + 1; omega, ⟨by show cS r.2.2 ≤ r.2.1 + 1; have := b2.1; omega, b2.2.1, by show r.2.1 + 1 ≤ c; omega⟩, by show cS g < cS r.2.2; omega⟩⟩
          · rw [if_neg c5]; exact rq_f a1 (by omega)
      · rw [if_neg c1]; exact rq_f a1 (by omega)
    · rw [if_neg q3]; exact rq_f t2 (by omega)
  · rw [if_neg q]; exact rq_f t2 (by omega)
theorem qW_rq (ht : te_ok tk c) {r1 : Nat → Nat → cT → cR} {o : Nat} (h1 : ∀ k g, gok c k g → rq c k g (r1 o k g)) {k : Nat} {g : cT} (hg : gok c k g) (hk : k < c) : rq c k g (qW tk r1 o k g) := by
  unfold qW
  obtain ⟨t1, t2, t3, t4⟩ := pt_ro ht (o := o) (show k + 1 ≤ c by omega)
  by_cases q : (pt tk o (k + 1)).1 = true
  · rw [if_pos q]
    have t4 := t4 q
    by_cases q3 : tk (pt tk o (k + 1)).2.2 = 7
    · rw [if_pos q3]
      have hne : (pt tk o (k + 1)).2.2 ≠ c := fun x => by rw [x, ht.2.1] at q3; omega
      have hr := qs_rq ht h1 (k := (pt tk o (k + 1)).2.2 + 1) (g := ad g 3 (pt tk o (k + 1)).2.1 none) ⟨by show cS g + 1 ≤ _; have := hg.1; omega, hg.2.1, by omega⟩
      generalize qs tk r1 o ((pt tk o (k + 1)).2.2 + 1) (ad g 3 (pt tk o (k + 1)).2.1 none) = r at hr
      obtain ⟨a1, a2, a3⟩ := hr
      show rq c k g (if r.1 = true then _ else _)
      by_cases c1 : r.1 = true
      · rw [if_pos c1]
        obtain ⟨b1, b2, b3⟩ := a3 c1
        have b3 : cS g + 1 < cS r.2.2 := b3
        by_cases c5 : tk r.2.1 = 8
        · rw [if_pos c5]
          have hne3 : r.2.1 ≠ c := fun x => by rw [x, ht.2.1] at c5; omega
          exact ⟨by show r.2.1 + 1 ≤ c; omega, by show k ≤ r.2.1 + 1; omega, fun _ => ⟨by show k < r.2.1 + 1; omega, ⟨by show cS r.2.2 + 1 ≤ r.2.1 + 1; have := b2.1; omega, b2.2.1, by show r.2.1 + 1 ≤ c; omega⟩, by show cS g < cS r.2.2 + 1; omega⟩⟩
        · rw [if_neg c5]; exact rq_f a1 (by omega)
      · rw [if_neg c1]; exact rq_f a1 (by omega)
    · rw [if_neg q3]; exact rq_f t2 (by omega)
  · rw [if_neg q]; exact rq_f t2 (by omega)
theorem q1_rq (ht : te_ok tk c) : ∀ d o k g, gok c k g → rq c k g (q1 tk d o k g)
  | 0, o, k, g, hg => rq_f hg.2.2 (Nat.le_refl _)
  | d + 1, o, k, g, hg => by
    have hk := hg.2.2
    have lt : ∀ t, t ≠ 23 → tk k = t → k < c := fun t h1 h2 => by
      have hne : k ≠ c := fun x => by rw [x, ht.2.1] at h2; omega
      omega
    have one : ∀ g', k < c → cS g' = cS g + 1 → cN g' ≤ 16 → rq c k g (true, k + 1, g') := fun g' hkc h1 h2 => ⟨by show k + 1 ≤ c; omega, by show k ≤ k + 1; omega, fun _ => ⟨by show k < k + 1; omega, ⟨by show cS g' ≤ k + 1; have := hg.1; omega, h2, by show k + 1 ≤ c; omega⟩, by show cS g < cS g'; omega⟩⟩
    rw [q1]
    by_cases c0 : tk k = 0
    · rw [if_pos c0]; exact one _ (lt 0 (by omega) c0) rfl hg.2.1
    rw [if_neg c0]
    by_cases c1 : tk k = 1
    · rw [if_pos c1]; exact one _ (lt 1 (by omega) c1) rfl hg.2.1
    rw [if_neg c1]
    by_cases c2 : tk k = 2
    · rw [if_pos c2]
      by_cases c8 : 8 ≤ o
      · rw [if_pos c8]; exact rq_f hk (Nat.le_refl _)
      · rw [if_neg c8]; exact qC_rq ht (fun k g hg => q1_rq ht d (o + 1) k g hg) hg (lt 2 (by omega) c2)
    rw [if_neg c2]
    by_cases c6 : tk k = 6
    · rw [if_pos c6]
      by_cases c8 : 8 ≤ o
      · rw [if_pos c8]; exact rq_f hk (Nat.le_refl _)
      · rw [if_neg c8]; exact qW_rq ht (fun k g hg => q1_rq ht d (o + 1) k g hg) hg (lt 6 (by omega) c6)
    rw [if_neg c6]
    by_cases c9 : tk k = 9
    · rw [if_pos c9]
      have hkc := lt 9 (by omega) c9
      obtain ⟨t1, t2, t3, t4⟩ := pt_ro ht (o := o) (show k + 1 ≤ c by omega)
      by_cases q : (pt tk o (k + 1)).1 = true
      · rw [if_pos q]
        have t4 := t4 q
        exact ⟨t2, by show k ≤ (pt tk o (k + 1)).2.2; omega, fun _ => ⟨by show k < (pt tk o (k + 1)).2.2; omega, ⟨by show cS g + 1 ≤ (pt tk o (k + 1)).2.2; have := hg.1; omega, hg.2.1, t2⟩, by show cS g < cS g + 1; omega⟩⟩
      · rw [if_neg q]; exact rq_f t2 (by omega)
    rw [if_neg c9]
    by_cases c12 : tk k = 12 ∨ tk k = 13 ∨ tk k = 14
    · rw [if_pos c12]
      by_cases c16 : cN g < 16
      · rw [if_pos c16]
        exact one _ (by rcases c12 with h | h | h; exact lt 12 (by omega) h; exact lt 13 (by omega) h; exact lt 14 (by omega) h) rfl (by show cN g + 1 ≤ 16; omega)
      · rw [if_neg c16]; exact rq_f hk (Nat.le_refl _)
    · rw [if_neg c12]; exact rq_f hk (Nat.le_refl _)
end
