/-! a program that is read: both tables -/
theorem mm_mono {g : cT} {x y : Nat} (h : x ≤ y) : mm g x ≤ mm g y := by
  have := mm_m (g := g) (x := x) (y - x)
  rw [show x + (y - x) = y by omega] at this
  exact this
theorem ma_of {z : ql_Z} {g : cT} {c k i : Nat} {z5 w : ql_St} (h : mz z.1 g) (hg : gok c k g) (hc : c ≤ 300) (hf : ∀ x, x < cS g → flo g x) (hw : w = (zp z (mm g (cS g)) (ii 4) (ii 0) (ii 0)).1)
    (e3 : ∀ j, j < 400 → z5 3 (400 * i + j) = w 3 (1600 + j)) (e4 : ∀ j, j < 400 → z5 4 (400 * i + j) = w 4 (1600 + j)) (e5 : ∀ j, j < 400 → z5 5 (400 * i + j) = w 5 (1600 + j)) :
    ma z5 i (dD w) (dV w) (dL w) (dQ w) (mm g (cS g)) := by
  have hk := hg.1
  have hk2 := hg.2.2
  have hn := hg.2.1
  have hS := mm_le (g := g) (cS g)
  have z3 : ∀ y, y < mm g (cS g) → w 3 (1600 + y) = z.1 3 (1600 + y) ∧ w 4 (1600 + y) = z.1 4 (1600 + y) ∧ w 5 (1600 + y) = z.1 5 (1600 + y) := fun y hy => by
    rw [hw]
    exact ⟨by
      show upd (z.1 3) (1600 + mm g (cS g)) _ (1600 + y) = _
      rw [ud_ne (by omega)], by
      show upd (z.1 4) (1600 + mm g (cS g)) _ (1600 + y) = _
      rw [ud_ne (by omega)], by
      show upd (z.1 5) (1600 + mm g (cS g)) _ (1600 + y) = _
      rw [ud_ne (by omega)]⟩
  have e3E : w 3 (1600 + mm g (cS g)) = ii 4 := by
    rw [hw]
    show upd (z.1 3) (1600 + mm g (cS g)) (ii 4) (1600 + mm g (cS g)) = _
    rw [ud_same]
  clear hw
  have dd : ∀ y n, n < 5 → w 3 (1600 + y) = ii n → dD w y = n := fun y n hn h => by
    unfold dD
    rw [h, ii_nat (by omega)]
  refine ⟨by omega, fun y hy => ?_⟩
  have f3 := e3 y (by omega)
  have f4 := e4 y (by omega)
  have f5 := e5 y (by omega)
  have fin : ∀ n, n < 5 → w 3 (1600 + y) = ii n → (n = 1 ∨ n = 2 → (w 5 (1600 + y) = -ii 1 ∨ ∃ t, t ≤ mm g (cS g) ∧ w 5 (1600 + y) = ii t)) → (n = 0 → ∃ t, t ≤ 16 ∧ w 4 (1600 + y) = ii t) → (n = 1 → y < mm g (cS g)) →
      z5 3 (400 * i + y) = ii (dD w y) ∧ dD w y < 5 ∧ z5 4 (400 * i + y) = dV w y ∧ (dD w y = 1 ∨ dD w y = 2 → z5 5 (400 * i + y) = em (dQ w y)) ∧ (dD w y = 0 → dV w y = em (dL w y)) ∧ (dD w y = 1 → y < mm g (cS g)) ∧ (dD w y = 1 ∨ dD w y = 2 → ∀ t, dQ w y = some t → t ≤ mm g (cS g)) := fun n hn5 hd hq hv hy1 => by
    rw [dd y n hn5 hd]
    refine ⟨f3.trans hd, hn5, f4, fun x => ?_, fun x => ?_, hy1, fun x t ht => ?_⟩
    · rw [f5]
      rcases hq x with q | ⟨t, ht, q⟩
      · rw [dQ_n q, q]; rfl
      · rw [dQ_s (by omega) q, q]; rfl
    · obtain ⟨t, ht, q⟩ := hv x
      unfold dV dL
      rw [q, ii_nat (by omega)]; rfl
    · rcases hq x with q | ⟨t', ht', q⟩
      · rw [dQ_n q] at ht; cases ht
      · rw [dQ_s (by omega) q] at ht
        injection ht with ht; omega
  by_cases yE : y = mm g (cS g)
  · rw [yE] at fin ⊢
    exact fin 4 (by omega) e3E (fun x => by omega) (fun x => by omega) (fun x => by omega)
  · obtain ⟨x, hx, rfl, nsk⟩ := mm_sur (g := g) (cS g) y (by omega)
    obtain ⟨a, _⟩ := h.2.2.2.1 x hx
    have jl := h.2.2.2.2.2 x
    have ml := mm_lt nsk hx
    obtain ⟨r3, r4, r5⟩ := z3 _ ml
    have jt : ∀ t, cJ g x = some t → cK g x ≠ 1 → mm g t ≤ mm g (cS g) := fun t e n => mm_mono ((jl t hx e).2 n)
    rcases a with a | ⟨a1, a2, a3, a4⟩ | ⟨a1, t, a2, a3, a4⟩ | ⟨a1, a2, a3, a4⟩ | ⟨a1, a2, a3, a4, a5⟩ | ⟨a1, a2, a3, a4⟩
    · exact absurd a nsk
    · exact fin 3 (by omega) (r3.trans a4) (fun x => by omega) (fun x => by omega) (fun x => by omega)
    · exact fin 0 (by omega) (r3.trans a3) (fun x => by omega) (fun _ => ⟨t, by have := ((jl t hx a2).1 a1).2; omega, r4.trans a4⟩) (fun x => by omega)
    · obtain ⟨t, et⟩ := (hf x hx).2 (by omega)
      exact fin 1 (by omega) (r3.trans a2) (fun _ => Or.inr ⟨mm g t, jt t et (by omega), r5.trans (a4 t et)⟩) (fun x => by omega) (fun _ => ml)
    · exact fin 1 (by omega) (r3.trans a3) (fun _ => Or.inl (r5.trans a5)) (fun x => by omega) (fun _ => ml)
    · obtain ⟨t, et⟩ := (hf x hx).2 (by omega)
      exact fin 2 (by omega) (r3.trans a3) (fun _ => Or.inr ⟨mm g t, jt t et (by omega), r5.trans (a4 t et)⟩) (fun x => by omega) (fun x => by omega)
def cB0 (g : cT) (p : Nat) : Nat := if p = 0 then 0 else cB g p
theorem cB0_le {z : ql_St} {g : cT} (h : mz z g) {p : Nat} (hp : p ≤ cN g) : cB0 g p ≤ cS g := by
  unfold cB0
  by_cases q : p = 0
  · rw [if_pos q]; exact Nat.zero_le _
  · rw [if_neg q]; exact (h.2.2.2.2.1 p (by omega) hp).2.2.1
theorem k_of {z : ql_St} {g : cT} {x : Nat} (h : mz z g) (hx : x < cS g) : cK g x < 6 ∧ (cK g x = 1 → ∃ t, cJ g x = some t ∧ 1 ≤ t ∧ t ≤ cN g) := by
  obtain ⟨a, _⟩ := h.2.2.2.1 x hx
  have jl := h.2.2.2.2.2 x
  rcases a with a | ⟨a1, a2, a3, a4⟩ | ⟨a1, t, a2, a3, a4⟩ | ⟨a1, a2, a3, a4⟩ | ⟨a1, a2, a3, a4, a5⟩ | ⟨a1, a2, a3, a4⟩
  · exact ⟨by omega, fun y => by omega⟩
  · exact ⟨by omega, fun y => by omega⟩
  · exact ⟨by omega, fun _ => ⟨t, a2, (jl t hx a2).1 a1⟩⟩
  · exact ⟨by omega, fun y => by omega⟩
  · exact ⟨by omega, fun y => by omega⟩
  · exact ⟨by omega, fun y => by omega⟩
theorem ca_of {z p : ql_St} {g : cT} {c k : Nat} (hp : cz p g) (h : mz z g) (hg : gok c k g) (hc : c ≤ 300) : ca p (cK g) (fun x => ii (cW g x)) (cJ g) (cS g) (cN g) (cB0 g) := by
  have hk := hg.1
  have hk2 := hg.2.2
  refine ⟨by omega, hg.2.1, hp.1, hp.2.1, fun x hx => ?_, fun q hq => ⟨?_, cB0_le h hq⟩, fun x t hx n e => (h.2.2.2.2.2 x t hx e).2 n, fun x hx e => (k_of h hx).2 e⟩
  · obtain ⟨a1, a2, a3⟩ := hp.2.2.1 x hx
    exact ⟨a1, (k_of h hx).1, a2, a3⟩
  · unfold cB0
    by_cases e : q = 0
    · rw [if_pos e, e]; exact hp.2.2.2.2
    · rw [if_neg e]; exact (hp.2.2.2.1 q (by omega) hq).1
/-! what size asks of a program -/
def pgs (s z : ql_St) (i : Nat) : Prop := ∃ g : cT, cS g ≤ 300 ∧ (cN g ≤ 16 ∧ s 6 0 = ii (cN g)) ∧ us g (cS g) ≤ 199 ∧ s 3 0 = ii (cS g) ∧
  (∀ x, x < cS g → s 0 x = ii (cK g x) ∧ s 1 x = ii (cW g x) ∧ s 2 x = ec (cJ g x) ∧ cK g x < 6 ∧ cW g x < 16 ∧ (cK g x = 1 → ∃ t, cJ g x = some t ∧ 1 ≤ t ∧ t ≤ cN g)) ∧
  (∀ q, 1 ≤ q → q ≤ cN g → s 5 q = ii (cA g q)) ∧ z 12 i = ii (us g (cS g)) ∧ ∀ x, x < cS g → st1 z (200 * i) g x
theorem pg_k {s z z' : ql_St} {i n : Nat} {T : pw_T} {A : Nat → Nat} (h : pg s z i n T A) (e9 : z' 9 i = z 9 i) (e13 : ∀ x, 68 * i ≤ x → x < 68 * i + 68 → z' 13 x = z 13 x) (e7 : ∀ x, 17 * i ≤ x → x < 17 * i + 17 → z' 7 x = z 7 x) : pg s z' i n T A := by
  obtain ⟨ok, a1, a2, a3, a4, a5, a6, a7, a8⟩ := h
  have hn := ok.1
  refine ⟨ok, a1, a2, a3, a4, a5, e9.trans a6, fun p a hp ha => ?_, fun p h1 h2 => ?_⟩
  · rw [e13 _ (by omega) (by omega)]; exact a7 p a hp ha
  · rw [e7 _ (by omega) (by omega)]; exact a8 p h1 h2
theorem st1_k {z z' : ql_St} {o o' : Nat} {g : cT} {x : Nat} (h : st1 z o g x) (e : cK g x < 5 → z' 10 (o' + us g x) = z 10 (o + us g x) ∧ z' 11 (o' + us g x) = z 11 (o + us g x)) : st1 z' o' g x := fun h5 => by
  obtain ⟨e1, e2⟩ := e h5
  rw [e1, e2]
  exact h h5
theorem us_mono {g : cT} {x y : Nat} (h : x ≤ y) : us g x ≤ us g y := by
  have := us_m (g := g) (x := x) (y - x)
  rw [show x + (y - x) = y by omega] at this
  exact this
theorem pgs_k {s z z' : ql_St} {i : Nat} (h : pgs s z i) (e12 : z' 12 i = z 12 i) (e10 : ∀ x, 200 * i ≤ x → x < 200 * i + 200 → z' 10 x = z 10 x ∧ z' 11 x = z 11 x) : pgs s z' i := by
  obtain ⟨g, a1, a2, a3, a4, a5, a6, a7, a8⟩ := h
  refine ⟨g, a1, a2, a3, a4, a5, a6, e12.trans a7, fun x hx => st1_k (a8 x hx) (fun _ => ?_)⟩
  have := us_mono (g := g) (show x ≤ cS g by omega)
  exact e10 _ (by omega) (by omega)
def RR (u : ql_U) (z : ql_Z) : Prop := pga u.2.1 z.1 ∧ (∀ i, i < 4 → pgs (u.2.1 i) z.1 i) ∧ tr u.1 z ∧ u.1.2.1 100 0 = z.2 0 0 ∧ ∀ i, i < 5 → u.2.1 i 4 0 = ii 0
