/-! what a reading keeps of the code, and what it fills in -/
def flo (g : cT) (x : Nat) : Prop := cW g x < 16 ∧ (cK g x = 2 ∨ cK g x = 3 ∨ cK g x = 5 → ∃ t, cJ g x = some t)
def sme (g g' : cT) (x : Nat) : Prop := cK g' x = cK g x ∧ cW g' x = cW g x ∧ cJ g' x = cJ g x
def kp (g g' : cT) : Prop := cS g ≤ cS g' ∧ (∀ x, x < cS g → sme g g' x) ∧ ∀ x, cS g ≤ x → x < cS g' → flo g' x
def ug (g : cT) : Nat := us g (cS g)
def kq (k : Nat) (g : cT) (r : cR) : Prop := r.1 = true → kp g r.2.2 ∧ (2 * ug g ≤ k → 2 * ug r.2.2 ≤ r.2.1 + 1)
theorem flo_s {g g' : cT} {x : Nat} (h : flo g x) (e : sme g g' x) : flo g' x := by
  unfold flo
  rw [e.1, e.2.1, e.2.2]; exact h
theorem sme_t {g g' g'' : cT} {x : Nat} (h : sme g g' x) (h' : sme g' g'' x) : sme g g'' x := ⟨h'.1.trans h.1, h'.2.1.trans h.2.1, h'.2.2.trans h.2.2⟩
theorem sme_pj {g : cT} {s t x : Nat} (h : x ≠ s) : sme g (pj g s t) x := ⟨rfl, rfl, un_n h⟩
theorem sme_ad {g : cT} {k w x : Nat} {j : Option Nat} (h : x ≠ cS g) : sme g (ad g k w j) x := ⟨un_n h, un_n h, un_n h⟩
theorem kp_r (g : cT) : kp g g := ⟨Nat.le_refl _, fun x _ => ⟨rfl, rfl, rfl⟩, fun x h1 h2 => by omega⟩
theorem kp_t {g g' g'' : cT} (h : kp g g') (h' : kp g' g'') : kp g g'' :=
  ⟨Nat.le_trans h.1 h'.1, fun x hx => sme_t (h.2.1 x hx) (h'.2.1 x (by have := h.1; omega)), fun x h1 h2 => by
    by_cases q : x < cS g'
    · exact flo_s (h.2.2 x h1 q) (h'.2.1 x q)
    · exact h'.2.2 x (by omega) h2⟩
theorem flo_pj {g : cT} {s t : Nat} (h : cW g s < 16) : flo (pj g s t) s := ⟨h, fun _ => ⟨t, un_s _ _ _⟩⟩
theorem ug_pj {g : cT} {s t : Nat} : ug (pj g s t) = ug g := us_c _ (fun _ _ => rfl)
theorem ug_ad {g : cT} {k w : Nat} {j : Option Nat} : ug (ad g k w j) = ug g + (if k < 5 then 1 else 0) := by
  have eK : cK (ad g k w j) (cS g) = k := un_s _ _ _
  show us (ad g k w j) (cS g) + (if cK (ad g k w j) (cS g) < 5 then 1 else 0) = _
  rw [eK, us_c (g := g) (cS g) (fun y hy => un_n (by omega))]; rfl
theorem ug_pl {g : cT} {a : Nat} : ug (pl g a) = ug g + 1 := by
  have eK : cK (pl g a) (cS g) = 1 := un_s _ _ _
  show us (pl g a) (cS g) + (if cK (pl g a) (cS g) < 5 then 1 else 0) = _
  rw [eK, us_c (g := g) (cS g) (fun y hy => un_n (by omega))]; rfl
/-- one step, done -/
theorem kp_ad {g : cT} {k w : Nat} {j : Option Nat} (hw : w < 16) (hk : k ≠ 2 ∧ k ≠ 3 ∧ k ≠ 5) : kp g (ad g k w j) := by
  refine ⟨Nat.le_succ _, fun x hx => sme_ad (by omega), fun x h1 h2 => ?_⟩
  obtain rfl : x = cS g := by have : x < cS g + 1 := h2; omega
  have eK : cK (ad g k w j) (cS g) = k := un_s _ _ _
  have eW : cW (ad g k w j) (cS g) = w := un_s _ _ _
  exact ⟨by rw [eW]; exact hw, fun h => by rw [eK] at h; omega⟩
theorem kp_pl {g : cT} {a : Nat} : kp g (pl g a) := by
  refine ⟨Nat.le_succ _, fun x hx => ⟨un_n (by omega), un_n (by omega), un_n (by omega)⟩, fun x h1 h2 => ?_⟩
  obtain rfl : x = cS g := by have : x < cS g + 1 := h2; omega
  have eK : cK (pl g a) (cS g) = 1 := un_s _ _ _
  have eW : cW (pl g a) (cS g) = 15 := un_s _ _ _
  exact ⟨by rw [eW]; omega, fun h => by rw [eK] at h; omega⟩
/-- opened, read, filled in -/
theorem kp_op {g g1 : cT} {k w t : Nat} (hw : w < 16) (h : kp (ad g k w none) g1) : kp g (pj g1 (cS g) t) := by
  have h1 : cS g + 1 ≤ cS g1 := h.1
  have eW : cW (ad g k w none) (cS g) = w := un_s _ _ _
  refine ⟨by show cS g ≤ cS g1; omega, fun x hx => sme_t (sme_t (sme_ad (by omega)) (h.2.1 x (by show x < cS g + 1; omega))) (sme_pj (by omega)), fun x q1 q2 => ?_⟩
  by_cases q : x = cS g
  · rw [q]
    exact flo_pj (by rw [(h.2.1 (cS g) (by show cS g < cS g + 1; omega)).2.1, eW]; exact hw)
  · exact flo_s (h.2.2 x (by show cS g + 1 ≤ x; omega) q2) (sme_pj q)
section
variable {tk : Nat → Nat} {c : Nat}
theorem qL_kq (ht : te_ok tk c) {r1 : Nat → Nat → cT → cR} {o : Nat} (h1 : ∀ k g, gok c k g → rq c k g (r1 o k g)) (h2 : ∀ k g, gok c k g → kq k g (r1 o k g)) : ∀ f k g, gok c k g → (qL tk r1 o f k g).1 = true → kp g (qL tk r1 o f k g).2.2 ∧ (2 * ug g ≤ k + 1 → 2 * ug (qL tk r1 o f k g).2.2 ≤ (qL tk r1 o f k g).2.1 + 1) := by
  intro f
  induction f with
  | zero => intro k g hg _; exact ⟨kp_r g, fun h => h⟩
  | succ f ih =>
    intro k g hg
    rw [qL]
    by_cases c1 : tk k = 17
    · rw [if_pos c1]
      have hne : k ≠ c := fun x => by rw [x, ht.2.1] at c1; omega
      have hg' : gok c (k + 1) g := ⟨by have := hg.1; omega, hg.2.1, by have := hg.2.2; omega⟩
      obtain ⟨a1, a2, a3⟩ := h1 (k + 1) g hg'
      have b := h2 (k + 1) g hg'
      by_cases q : (r1 o (k + 1) g).1 = true
      · rw [if_pos q]
        intro hx
        obtain ⟨d1, d2⟩ := ih _ _ (a3 q).2.1 hx
        obtain ⟨e1, e2⟩ := b q
        exact ⟨kp_t e1 d1, fun hu => d2 (e2 hu)⟩
      · rw [if_neg q]
        intro hx; cases hx
    · rw [if_neg c1]
      intro _; exact ⟨kp_r g, fun h => h⟩
theorem qs_kq (ht : te_ok tk c) {r1 : Nat → Nat → cT → cR} {o : Nat} (h1 : ∀ k g, gok c k g → rq c k g (r1 o k g)) (h2 : ∀ k g, gok c k g → kq k g (r1 o k g)) {k : Nat} {g : cT} (hg : gok c k g) : kq k g (qs tk r1 o k g) := by
  unfold qs
  obtain ⟨a1, a2, a3⟩ := h1 k g hg
  have b := h2 k g hg
  by_cases q : (r1 o k g).1 = true
  · rw [if_pos q]
    intro hx
    obtain ⟨d1, d2⟩ := qL_kq ht h1 h2 300 _ _ (a3 q).2.1 hx
    obtain ⟨e1, e2⟩ := b q
    exact ⟨kp_t e1 d1, fun hu => d2 (e2 hu)⟩
  · rw [if_neg q]
    intro hx; cases hx
theorem qC_kq (ht : te_ok tk c) {r1 : Nat → Nat → cT → cR} {o : Nat} (h1 : ∀ k g, gok c k g → rq c k g (r1 o k g)) (h2 : ∀ k g, gok c k g → kq k g (r1 o k g)) {k : Nat} {g : cT} (hg : gok c k g) (hk : k < c) : kq k g (qC tk r1 o k g) := by
  unfold qC
  obtain ⟨t1, t2, t3, t4⟩ := pt_ro ht (o := o) (show k + 1 ≤ c by omega)
  by_cases q : (pt tk o (k + 1)).1 = true
  · rw [if_pos q]
    have t4 := t4 q
    by_cases q3 : tk (pt tk o (k + 1)).2.2 = 3
    · rw [if_pos q3]
      have hne : (pt tk o (k + 1)).2.2 ≠ c := fun x => by rw [x, ht.2.1] at q3; omega
      have hg1 : gok c ((pt tk o (k + 1)).2.2 + 1) (ad g 2 (pt tk o (k + 1)).2.1 none) := ⟨by show cS g + 1 ≤ _; have := hg.1; omega, hg.2.1, by omega⟩
      have hr := qs_rq ht h1 hg1
      have hkq := qs_kq ht h1 h2 hg1
      have hu1 : ug (ad g 2 (pt tk o (k + 1)).2.1 none) = ug g + 1 := ug_ad
      generalize qs tk r1 o ((pt tk o (k + 1)).2.2 + 1) (ad g 2 (pt tk o (k + 1)).2.1 none) = r at hr hkq
      obtain ⟨a1, a2, a3⟩ := hr
      show kq k g (if r.1 = true then _ else _)
      by_cases c1 : r.1 = true
      · rw [if_pos c1]
        obtain ⟨b1, b2, b3⟩ := a3 c1
        have b3 : cS g + 1 < cS r.2.2 := b3
        obtain ⟨k1, k2⟩ := hkq c1
        by_cases c4 : tk r.2.1 = 4
        · rw [if_pos c4]
          have hne2 : r.2.1 ≠ c := fun x => by rw [x, ht.2.1] at c4; omega
          have hg2 : gok c (r.2.1 + 1) (pj (ad r.2.2 5 0 none) (cS g) (cS r.2.2 + 1)) := ⟨by show cS r.2.2 + 1 ≤ _; have := b2.1; omega, b2.2.1, by omega⟩
          have hr2 := qs_rq ht h1 hg2
          have hkq2 := qs_kq ht h1 h2 hg2
          have hu2 : ug (pj (ad r.2.2 5 0 none) (cS g) (cS r.2.2 + 1)) = ug r.2.2 := by rw [ug_pj, ug_ad]; rfl
          generalize qs tk r1 o (r.2.1 + 1) (pj (ad r.2.2 5 0 none) (cS g) (cS r.2.2 + 1)) = r2 at hr2 hkq2
          obtain ⟨d1, d2, d3⟩ := hr2
          show kq k g (if r2.1 = true then _ else _)
          by_cases c2 : r2.1 = true
          · rw [if_pos c2]
            obtain ⟨e1, e2, e3⟩ := d3 c2
            have e3 : cS r.2.2 + 1 < cS r2.2.2 := e3
            obtain ⟨m1, m2⟩ := hkq2 c2
            by_cases c5 : tk r2.2.1 = 5
            · rw [if_pos c5]
              intro _
              have ka := kp_op (t := cS r.2.2 + 1) t1 k1
              refine ⟨⟨by show cS g ≤ cS r2.2.2; omega, fun x hx => ?_, fun x q1 q2 => ?_⟩, fun hu => ?_⟩
              · have s1 : sme r.2.2 (pj (ad r.2.2 5 0 none) (cS g) (cS r.2.2 + 1)) x := sme_t (sme_ad (by omega)) (sme_pj (by omega))
                have s2 := m1.2.1 x (by show x < cS r.2.2 + 1; omega)
                have s0 : sme g r.2.2 x := sme_t (sme_ad (by omega)) (k1.2.1 x (by show x < cS g + 1; omega))
                exact sme_t (sme_t s0 (sme_t s1 s2)) (sme_pj (by omega))
              · have q2 : x < cS r2.2.2 := q2
                by_cases y : x = cS r.2.2
                · rw [y]
                  have w0 : cW r2.2.2 (cS r.2.2) = 0 := by
                    rw [(m1.2.1 (cS r.2.2) (by show cS r.2.2 < cS r.2.2 + 1; omega)).2.1]
                    show un (cW r.2.2) (cS r.2.2) 0 (cS r.2.2) = 0
                    rw [un_s]
                  exact flo_pj (by rw [w0]; omega)
                · refine flo_s ?_ (sme_pj y)
                  by_cases y2 : x < cS r.2.2
                  · refine flo_s ?_ (m1.2.1 x (by show x < cS r.2.2 + 1; omega))
                    have fa := ka.2.2 x q1 y2
                    refine flo_s fa ⟨?_, ?_, ?_⟩
                    · exact un_n y
                    · exact un_n y
                    · show un (un (cJ r.2.2) (cS r.2.2) none) (cS g) (some (cS r.2.2 + 1)) x = un (cJ r.2.2) (cS g) (some (cS r.2.2 + 1)) x
                      by_cases y3 : x = cS g
                      · rw [y3, un_s, un_s]
                      · rw [un_n y3, un_n y3, un_n y]
                  · exact m1.2.2 x (by show cS r.2.2 + 1 ≤ x; omega) q2
              · show 2 * ug (pj r2.2.2 (cS r.2.2) (cS r2.2.2)) ≤ r2.2.1 + 1 + 1
                rw [ug_pj]
                have v1 := k2 (by rw [hu1]; omega)
                have v2 := m2 (by rw [hu2]; omega)
                omega
            · rw [if_neg c5]; intro hx; cases hx
          · rw [if_neg c2]; intro hx; cases hx
        · rw [if_neg c4]
          by_cases c5 : tk r.2.1 = 5
          · rw [if_pos c5]
            intro _
            refine ⟨kp_op t1 k1, fun hu => ?_⟩
            show 2 * ug (pj r.2.2 (cS g) (cS r.2.2)) ≤ r.2.1 + 1 + 1
            rw [ug_pj]
            have v1 := k2 (by rw [hu1]; omega)
            omega
          · rw [if_neg c5]; intro hx; cases hx
      · rw [if_neg c1]; intro hx; cases hx
    · rw [if_neg q3]; intro hx; cases hx
  · rw [if_neg q]; intro hx; cases hx
theorem qW_kq (ht : te_ok tk c) {r1 : Nat → Nat → cT → cR} {o : Nat} (h1 : ∀ k g, gok c k g → rq c k g (r1 o k g)) (h2 : ∀ k g, gok c k g → kq k g (r1 o k g)) {k : Nat} {g : cT} (hg : gok c k g) (hk : k < c) : kq k g (qW tk r1 o k g) := by
  unfold qW
  obtain ⟨t1, t2, t3, t4⟩ := pt_ro ht (o := o) (show k + 1 ≤ c by omega)
  by_cases q : (pt tk o (k + 1)).1 = true
  · rw [if_pos q]
    have t4 := t4 q
    by_cases q3 : tk (pt tk o (k + 1)).2.2 = 7
    · rw [if_pos q3]
      have hne : (pt tk o (k + 1)).2.2 ≠ c := fun x => by rw [x, ht.2.1] at q3; omega
      have hg1 : gok c ((pt tk o (k + 1)).2.2 + 1) (ad g 3 (pt tk o (k + 1)).2.1 none) := ⟨by show cS g + 1 ≤ _; have := hg.1; omega, hg.2.1, by omega⟩
      have hr := qs_rq ht h1 hg1
      have hkq := qs_kq ht h1 h2 hg1
      have hu1 : ug (ad g 3 (pt tk o (k + 1)).2.1 none) = ug g + 1 := ug_ad
      generalize qs tk r1 o ((pt tk o (k + 1)).2.2 + 1) (ad g 3 (pt tk o (k + 1)).2.1 none) = r at hr hkq
      obtain ⟨a1, a2, a3⟩ := hr
      show kq k g (if r.1 = true then _ else _)
      by_cases c1 : r.1 = true
      · rw [if_pos c1]
        obtain ⟨b1, b2, b3⟩ := a3 c1
        have b3 : cS g + 1 < cS r.2.2 := b3
        obtain ⟨k1, k2⟩ := hkq c1
        by_cases c5 : tk r.2.1 = 8
        · rw [if_pos c5]
          intro _
          have ka : kp (ad g 3 (pt tk o (k + 1)).2.1 none) (ad r.2.2 5 0 (some (cS g))) := by
            refine kp_t k1 ⟨Nat.le_succ _, fun x hx => sme_ad (by omega), fun x y1 y2 => ?_⟩
            obtain rfl : x = cS r.2.2 := by have : x < cS r.2.2 + 1 := y2; omega
            have eW : cW (ad r.2.2 5 0 (some (cS g))) (cS r.2.2) = 0 := un_s _ _ _
            exact ⟨by rw [eW]; omega, fun _ => ⟨cS g, un_s _ _ _⟩⟩
          refine ⟨kp_op t1 ka, fun hu => ?_⟩
          show 2 * ug (pj (ad r.2.2 5 0 (some (cS g))) (cS g) (cS r.2.2 + 1)) ≤ r.2.1 + 1 + 1
          have hu3 : ug (pj (ad r.2.2 5 0 (some (cS g))) (cS g) (cS r.2.2 + 1)) = ug r.2.2 := by rw [ug_pj, ug_ad]; rfl
          rw [hu3]
          have v1 := k2 (by rw [hu1]; omega)
          omega
        · rw [if_neg c5]; intro hx; cases hx
      · rw [if_neg c1]; intro hx; cases hx
    · rw [if_neg q3]; intro hx; cases hx
  · rw [if_neg q]; intro hx; cases hx
theorem q1_kq (ht : te_ok tk c) : ∀ d o k g, gok c k g → kq k g (q1 tk d o k g)
  | 0, o, k, g, hg => fun hx => by cases hx
  | d + 1, o, k, g, hg => by
    have hk := hg.2.2
    have lt : ∀ t, t ≠ 23 → tk k = t → k < c := fun t h1 h2 => by
      have hne : k ≠ c := fun x => by rw [x, ht.2.1] at h2; omega
      omega
    rw [q1]
    by_cases c0 : tk k = 0
    · rw [if_pos c0]
      intro _
      refine ⟨kp_ad (by omega) (by omega), fun hu => ?_⟩
      show 2 * ug (ad g 0 15 none) ≤ k + 1 + 1
      rw [ug_ad, if_pos (by omega)]; omega
    rw [if_neg c0]
    by_cases c1 : tk k = 1
    · rw [if_pos c1]
      intro _
      refine ⟨kp_ad (by omega) (by omega), fun hu => ?_⟩
      show 2 * ug (ad g 0 0 none) ≤ k + 1 + 1
      rw [ug_ad, if_pos (by omega)]; omega
    rw [if_neg c1]
    by_cases c2 : tk k = 2
    · rw [if_pos c2]
      by_cases c8 : 8 ≤ o
      · rw [if_pos c8]; intro hx; cases hx
      · rw [if_neg c8]; exact qC_kq ht (fun k g hg => q1_rq ht d (o + 1) k g hg) (fun k g hg => q1_kq ht d (o + 1) k g hg) hg (lt 2 (by omega) c2)
    rw [if_neg c2]
    by_cases c6 : tk k = 6
    · rw [if_pos c6]
      by_cases c8 : 8 ≤ o
      · rw [if_pos c8]; intro hx; cases hx
      · rw [if_neg c8]; exact qW_kq ht (fun k g hg => q1_rq ht d (o + 1) k g hg) (fun k g hg => q1_kq ht d (o + 1) k g hg) hg (lt 6 (by omega) c6)
    rw [if_neg c6]
    by_cases c9 : tk k = 9
    · rw [if_pos c9]
      have hkc := lt 9 (by omega) c9
      obtain ⟨t1, t2, t3, t4⟩ := pt_ro ht (o := o) (show k + 1 ≤ c by omega)
      by_cases q : (pt tk o (k + 1)).1 = true
      · rw [if_pos q]
        have t4 := t4 q
        intro _
        refine ⟨kp_ad t1 (by omega), fun hu => ?_⟩
        show 2 * ug (ad g 4 (pt tk o (k + 1)).2.1 none) ≤ (pt tk o (k + 1)).2.2 + 1
        rw [ug_ad, if_pos (by omega)]; omega
      · rw [if_neg q]; intro hx; cases hx
    rw [if_neg c9]
    by_cases c12 : tk k = 12 ∨ tk k = 13 ∨ tk k = 14
    · rw [if_pos c12]
      by_cases c16 : cN g < 16
      · rw [if_pos c16]
        intro _
        refine ⟨kp_pl, fun hu => ?_⟩
        show 2 * ug (pl g (tk k - 11)) ≤ k + 1 + 1
        rw [ug_pl]; omega
      · rw [if_neg c16]; intro hx; cases hx
    · rw [if_neg c12]; intro hx; cases hx
end
