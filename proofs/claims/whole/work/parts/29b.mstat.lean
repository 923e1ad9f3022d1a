/-! the reference's statements: its small steps -/
/-- what a reading leaves as it was: the text, the tables, the other programs, the stacks of open words below f -/
def fn (z z' : ql_Z) (f : Nat) : Prop :=
  z'.1 1 = z.1 1 ∧ z'.1 2 = z.1 2 ∧ z'.1 13 = z.1 13 ∧ (∀ q, q < 68 → z'.1 7 q = z.1 7 q) ∧ (∀ q, q < 800 → z'.1 10 q = z.1 10 q ∧ z'.1 11 q = z.1 11 q) ∧ (∀ q, q ≠ 4 → z'.1 9 q = z.1 9 q ∧ z'.1 12 q = z.1 12 q) ∧ z'.2 = z.2 ∧ ∀ q, q < f → z'.1 22 q = z.1 22 q ∧ z'.1 23 q = z.1 23 q ∧ z'.1 24 q = z.1 24 q
theorem fn_r (z : ql_Z) (f : Nat) : fn z z f := ⟨rfl, rfl, rfl, fun _ _ => rfl, fun _ _ => ⟨rfl, rfl⟩, fun _ _ => ⟨rfl, rfl⟩, rfl, fun _ _ => ⟨rfl, rfl, rfl⟩⟩
theorem fn_t {z z' z'' : ql_Z} {f f' : Nat} (h : fn z z' f) (h' : fn z' z'' f') (hf : f ≤ f') : fn z z'' f :=
  ⟨h'.1.trans h.1, h'.2.1.trans h.2.1, h'.2.2.1.trans h.2.2.1, fun q hq => (h'.2.2.2.1 q hq).trans (h.2.2.2.1 q hq), fun q hq => ⟨((h'.2.2.2.2.1 q hq).1).trans (h.2.2.2.2.1 q hq).1, ((h'.2.2.2.2.1 q hq).2).trans (h.2.2.2.2.1 q hq).2⟩, fun q hq => ⟨((h'.2.2.2.2.2.1 q hq).1).trans (h.2.2.2.2.2.1 q hq).1, ((h'.2.2.2.2.2.1 q hq).2).trans (h.2.2.2.2.2.1 q hq).2⟩, h'.2.2.2.2.2.2.1.trans h.2.2.2.2.2.2.1, fun q hq => by
    obtain ⟨a1, a2, a3⟩ := h'.2.2.2.2.2.2.2 q (by omega)
    obtain ⟨b1, b2, b3⟩ := h.2.2.2.2.2.2.2 q hq
    exact ⟨a1.trans b1, a2.trans b2, a3.trans b3⟩⟩
theorem fn_l {z z' : ql_Z} {f f' : Nat} (h : fn z z' f) (hf : f' ≤ f) : fn z z' f' := ⟨h.1, h.2.1, h.2.2.1, h.2.2.2.1, h.2.2.2.2.1, h.2.2.2.2.2.1, h.2.2.2.2.2.2.1, fun q hq => h.2.2.2.2.2.2.2 q (by omega)⟩
section
variable {N L c : Nat} {b tk bg nx : Nat → Nat}
theorem fs_n {z z' : ql_Z} (h : fs z z') (f : Nat) : fn z z' f := by
  have e := fun s (a : s ≠ 14) (b : s ≠ 15) (c : s ≠ 16) => h.1 s a b c
  refine ⟨e 1 (by decide) (by decide) (by decide), e 2 (by decide) (by decide) (by decide), e 13 (by decide) (by decide) (by decide), fun q _ => by rw [e 7 (by decide) (by decide) (by decide)], fun q _ => ⟨by rw [e 10 (by decide) (by decide) (by decide)], by rw [e 11 (by decide) (by decide) (by decide)]⟩, fun q _ => ⟨by rw [e 9 (by decide) (by decide) (by decide)], by rw [e 12 (by decide) (by decide) (by decide)]⟩, h.2, fun q _ => ⟨by rw [e 22 (by decide) (by decide) (by decide)], by rw [e 23 (by decide) (by decide) (by decide)], by rw [e 24 (by decide) (by decide) (by decide)]⟩⟩
theorem fo_n {z z' : ql_Z} (h : fo z z') (f : Nat) : fn z z' f := by
  have e := fun s (a : s < 14 ∨ 21 < s) => h.1 s a
  refine ⟨e 1 (by omega), e 2 (by omega), e 13 (by omega), fun q _ => by rw [e 7 (by omega)], fun q _ => ⟨by rw [e 10 (by omega)], by rw [e 11 (by omega)]⟩, fun q _ => ⟨by rw [e 9 (by omega)], by rw [e 12 (by omega)]⟩, h.2, fun q _ => ⟨by rw [e 22 (by omega)], by rw [e 23 (by omega)], by rw [e 24 (by omega)]⟩⟩
/-- mz reads rows 3 to 12 alone -/
theorem mz_f {z z' : ql_St} {g : cT} (h : mz z g) (e : ∀ s, 3 ≤ s → s ≤ 12 → z' s = z s) : mz z' g := by
  unfold mz sr1 st1 at *
  rw [e 3 (by omega) (by omega), e 4 (by omega) (by omega), e 5 (by omega) (by omega), e 6 (by omega) (by omega), e 7 (by omega) (by omega), e 8 (by omega) (by omega), e 9 (by omega) (by omega), e 10 (by omega) (by omega), e 11 (by omega) (by omega), e 12 (by omega) (by omega)]
  exact h
def zp (z : ql_Z) (M : Nat) (k w t : Int32) : ql_Z := (ql_up (ql_up (ql_up (ql_up z.1 3 (upd (z.1 3) (1600 + M) k)) 4 (upd (z.1 4) (1600 + M) w)) 5 (upd (z.1 5) (1600 + M) t)) 6 (upd (z.1 6) 4 (ii (M + 1))), z.2)
def zn (z : ql_Z) (U : Nat) (k v : Int32) : ql_Z := (ql_up (ql_up (ql_up z.1 10 (upd (z.1 10) (800 + U) k)) 11 (upd (z.1 11) (800 + U) v)) 12 (upd (z.1 12) 4 (ii (U + 1))), z.2)
theorem m_puts {z : ql_Z} {M : Nat} {k w t : Int32} (h6 : z.1 6 4 = ii M) (hM : M < 400) : f_X11_puts N z k w t = some (ii M, zp z M k w t) := by
  unfold f_X11_puts f_X11_puts_0
  have i1 : (1600 : Int32) + z.1 6 4 = ii (1600 + M) := by rw [h6, lk_1600, ii_add]
  have i2 : z.1 6 4 + 1 = ii (M + 1) := by rw [h6, lk_1, ii_add]
  rw [i1, i2, ii_nat (by omega), ud_same]
  have ib : ql_ib (ii (1600 + M)) 2000 = true := ii_ib (by omega) (by omega)
  refine sp ib (sp ib (sp ib ?_))
  rw [lk_1, ii_sub (by omega), show M + 1 - 1 = M by omega]; rfl
theorem m_notes {z : ql_Z} {U : Nat} {k v : Int32} (h12 : z.1 12 4 = ii U) (hU : U < 200) : f_X11_notes N z k v = some (zn z U k v) := by
  unfold f_X11_notes f_X11_notes_0
  have i1 : (800 : Int32) + z.1 12 4 = ii (800 + U) := by rw [h12, lk_800, ii_add]
  have i2 : z.1 12 4 + 1 = ii (U + 1) := by rw [h12, lk_1, ii_add]
  rw [i1, i2, ii_nat (by omega)]
  have ib : ql_ib (ii (800 + U)) 1000 = true := ii_ib (by omega) (by omega)
  exact sp ib (sp ib rfl)
theorem m_lands {z : ql_Z} {M s : Nat} (h6 : z.1 6 4 = ii M) (hs : s < 400) : f_X11_lands N z (ii s) = some (ql_up z.1 5 (upd (z.1 5) (1600 + s) (ii M)), z.2) := by
  unfold f_X11_lands f_X11_lands_0
  rw [h6, lk_1600, ii_add, ii_nat (by omega)]
  exact sp (ii_ib (by omega) (by omega)) rfl
theorem m_sizeOf {w : Nat} (h : w < 16) : f_X11_sizeOf N (ii w) = some (ii (pcn w)) := by
  have t : ∀ w : Fin 16, f_X11_sizeOf 0 (ii w.1) = some (ii (pcn w.1)) := by decide +kernel
  exact t ⟨w, h⟩
theorem c_bits {w : Nat} (h : w < 16) : f_J6_bitCount_0f7a4 N (ii w) = some (ii (pcn w)) := by
  have t : ∀ w : Fin 16, f_J6_bitCount_0f7a4 0 (ii w.1) = some (ii (pcn w.1)) := by decide +kernel
  exact t ⟨w, h⟩
theorem zp_n (z : ql_Z) (M : Nat) (k w t : Int32) (f : Nat) : fn z (zp z M k w t) f := ⟨rfl, rfl, rfl, fun _ _ => rfl, fun _ _ => ⟨rfl, rfl⟩, fun _ _ => ⟨rfl, rfl⟩, rfl, fun _ _ => ⟨rfl, rfl, rfl⟩⟩
theorem zn_n (z : ql_Z) (U : Nat) (k v : Int32) (f : Nat) : fn z (zn z U k v) f := by
  refine ⟨rfl, rfl, rfl, fun _ _ => rfl, fun q hq => ⟨?_, ?_⟩, fun q hq => ⟨rfl, ?_⟩, rfl, fun _ _ => ⟨rfl, rfl, rfl⟩⟩
  · show upd (z.1 10) (800 + U) k q = _
    rw [ud_ne (by omega)]
  · show upd (z.1 11) (800 + U) v q = _
    rw [ud_ne (by omega)]
  · show upd (z.1 12) 4 (ii (U + 1)) q = _
    rw [ud_ne hq]
/-- skip: a statement, no step -/
theorem mz_skip {z : ql_Z} {g : cT} (h : mz z.1 g) : mz (zn z (us g (cS g)) (ii 0) (ii 0)).1 (ad g 0 15 none) := by
  have eK : cK (ad g 0 15 none) (cS g) = 0 := un_s _ _ _
  have eW : cW (ad g 0 15 none) (cS g) = 15 := un_s _ _ _
  have mS : mm (ad g 0 15 none) (cS g) = mm g (cS g) := mm_c _ (fun y hy => ⟨un_n (by omega), un_n (by omega)⟩)
  have uS : us (ad g 0 15 none) (cS g) = us g (cS g) := us_c _ (fun y hy => un_n (by omega))
  refine mz_ad h (by omega) (fun t e => by cases e) (fun y _ => ⟨rfl, rfl, rfl⟩) (fun u hu => ⟨?_, ?_⟩) rfl rfl rfl ?_ ?_ (Or.inl ⟨eK, eW⟩) (fun _ => ?_)
  · show upd (z.1 10) (800 + us g (cS g)) (ii 0) (800 + u) = _
    rw [ud_ne (by omega)]
  · show upd (z.1 11) (800 + us g (cS g)) (ii 0) (800 + u) = _
    rw [ud_ne (by omega)]
  · rw [mm_0 (g := ad g 0 15 none) ⟨eK, eW⟩, mS]; exact h.1
  · rw [us_s (g := ad g 0 15 none) (by rw [eK]; omega), uS]
    show upd (z.1 12) 4 (ii (us g (cS g) + 1)) 4 = _
    rw [ud_same]
  · rw [uS, eK]
    refine ⟨?_, fun e => by omega, fun e => by omega⟩
    show upd (z.1 10) (800 + us g (cS g)) (ii 0) (800 + us g (cS g)) = _
    rw [ud_same]
/-- a statement with a step -/
theorem mz_both {z : ql_Z} {g : cT} {k w d : Nat} {v t : Int32} {j : Option Nat} (h : mz z.1 g) (hk5 : k < 5) (hk1 : k ≠ 1) (hns : ¬ (k = 0 ∧ w = 15)) (hj : ∀ t, j = some t → t ≤ cS g) (hv : k = 2 ∨ k = 3 ∨ k = 4 → v = ii (pcn w))
    (hs : ∀ m, (k = 0 ∧ w = 0 ∧ j = none ∧ d = 3) ∨ ((k = 2 ∨ k = 3) ∧ d = 1 ∧ j = none ∧ m = ii w) ∨ (k = 4 ∧ d = 1 ∧ j = none ∧ t = -ii 1 ∧ m = ii w) ∨ m ≠ (if k = 0 then ii 0 else ii w)) :
    mz (zp (zn z (us g (cS g)) (ii k) v) (mm g (cS g)) (ii d) (if k = 0 then ii 0 else ii w) t).1 (ad g k w j) := by
  have eK : cK (ad g k w j) (cS g) = k := un_s _ _ _
  have eW : cW (ad g k w j) (cS g) = w := un_s _ _ _
  have eJ : cJ (ad g k w j) (cS g) = j := un_s _ _ _
  have mS : mm (ad g k w j) (cS g) = mm g (cS g) := mm_c _ (fun y hy => ⟨un_n (by omega), un_n (by omega)⟩)
  have uS : us (ad g k w j) (cS g) = us g (cS g) := us_c _ (fun y hy => un_n (by omega))
  refine mz_ad h hk1 hj (fun y hy => ⟨?_, ?_, ?_⟩) (fun u hu => ⟨?_, ?_⟩) rfl rfl rfl ?_ ?_ ?_ (fun _ => ?_)
  · show upd (z.1 3) (1600 + mm g (cS g)) _ (1600 + y) = _
    rw [ud_ne (by omega)]
  · show upd (z.1 4) (1600 + mm g (cS g)) _ (1600 + y) = _
    rw [ud_ne (by omega)]
  · show upd (z.1 5) (1600 + mm g (cS g)) _ (1600 + y) = _
    rw [ud_ne (by omega)]
  · show upd (z.1 10) (800 + us g (cS g)) _ (800 + u) = _
    rw [ud_ne (by omega)]
  · show upd (z.1 11) (800 + us g (cS g)) _ (800 + u) = _
    rw [ud_ne (by omega)]
  · rw [mm_s (g := ad g k w j) (by rw [eK, eW]; exact hns), mS]
    show upd (z.1 6) 4 (ii (mm g (cS g) + 1)) 4 = _
    rw [ud_same]
  · rw [us_s (g := ad g k w j) (by rw [eK]; exact hk5), uS]
    show upd (z.1 12) 4 (ii (us g (cS g) + 1)) 4 = _
    rw [ud_same]
  · unfold sr1
    rw [eK, eW, eJ, mS]
    have z3 : (zp (zn z (us g (cS g)) (ii k) v) (mm g (cS g)) (ii d) (if k = 0 then ii 0 else ii w) t).1 3 (1600 + mm g (cS g)) = ii d := by
      show upd (z.1 3) (1600 + mm g (cS g)) (ii d) (1600 + mm g (cS g)) = _
      rw [ud_same]
    have z4 : (zp (zn z (us g (cS g)) (ii k) v) (mm g (cS g)) (ii d) (if k = 0 then ii 0 else ii w) t).1 4 (1600 + mm g (cS g)) = (if k = 0 then ii 0 else ii w) := by
      show upd (z.1 4) (1600 + mm g (cS g)) _ (1600 + mm g (cS g)) = _
      rw [ud_same]
    have z5 : (zp (zn z (us g (cS g)) (ii k) v) (mm g (cS g)) (ii d) (if k = 0 then ii 0 else ii w) t).1 5 (1600 + mm g (cS g)) = t := by
      show upd (z.1 5) (1600 + mm g (cS g)) t (1600 + mm g (cS g)) = _
      rw [ud_same]
    rw [z3, z4, z5]
    rcases hs (if k = 0 then ii 0 else ii w) with ⟨a1, a2, a3, a4⟩ | ⟨a1, a2, a3, a4⟩ | ⟨a1, a2, a3, a4, a5⟩ | a
    · exact Or.inr (Or.inl ⟨a1, a2, a3, by rw [a4]⟩)
    · exact Or.inr (Or.inr (Or.inr (Or.inl ⟨a1, by rw [a2], a4, fun t e => by rw [a3] at e; cases e⟩)))
    · exact Or.inr (Or.inr (Or.inr (Or.inr (Or.inl ⟨a1, a3, by rw [a2], a5, a4⟩))))
    · exact absurd rfl a
  · rw [uS, eK, eW]
    refine ⟨?_, fun e => absurd e hk1, fun e => ?_⟩
    · show upd (z.1 10) (800 + us g (cS g)) (ii k) (800 + us g (cS g)) = _
      rw [ud_same]
    · show upd (z.1 11) (800 + us g (cS g)) v (800 + us g (cS g)) = _
      rw [ud_same]; exact hv e
/-- a leap: a step, no statement -/
theorem mz_leap {z : ql_Z} {g : cT} {t : Int32} {j : Option Nat} (h : mz z.1 g) (hj : ∀ x, j = some x → x ≤ cS g ∧ t = ii (mm g x)) : mz (zp z (mm g (cS g)) (ii 2) (ii 0) t).1 (ad g 5 0 j) := by
  have eK : cK (ad g 5 0 j) (cS g) = 5 := un_s _ _ _
  have eW : cW (ad g 5 0 j) (cS g) = 0 := un_s _ _ _
  have eJ : cJ (ad g 5 0 j) (cS g) = j := un_s _ _ _
  have mc' : ∀ x, x ≤ cS g → mm (ad g 5 0 j) x = mm g x := fun x hx => mm_c _ (fun y hy => ⟨un_n (by omega), un_n (by omega)⟩)
  have uS : us (ad g 5 0 j) (cS g) = us g (cS g) := us_c _ (fun y hy => un_n (by omega))
  refine mz_ad h (by omega) (fun x e => (hj x e).1) (fun y hy => ⟨?_, ?_, ?_⟩) (fun u hu => ⟨rfl, rfl⟩) rfl rfl rfl ?_ ?_ ?_ (fun e => ?_)
  · show upd (z.1 3) (1600 + mm g (cS g)) _ (1600 + y) = _
    rw [ud_ne (by omega)]
  · show upd (z.1 4) (1600 + mm g (cS g)) _ (1600 + y) = _
    rw [ud_ne (by omega)]
  · show upd (z.1 5) (1600 + mm g (cS g)) _ (1600 + y) = _
    rw [ud_ne (by omega)]
  · rw [mm_s (g := ad g 5 0 j) (by rw [eK]; omega), mc' _ (Nat.le_refl _)]
    show upd (z.1 6) 4 (ii (mm g (cS g) + 1)) 4 = _
    rw [ud_same]
  · rw [us_0 (g := ad g 5 0 j) (by rw [eK]; omega), uS]; exact h.2.2.1
  · unfold sr1
    rw [eK, eW, eJ, mc' _ (Nat.le_refl _)]
    refine Or.inr (Or.inr (Or.inr (Or.inr (Or.inr ⟨rfl, rfl, ?_, fun x e => ?_⟩))))
    · show upd (z.1 3) (1600 + mm g (cS g)) (ii 2) (1600 + mm g (cS g)) = _
      rw [ud_same]
    · obtain ⟨h1, h2⟩ := hj x e
      show upd (z.1 5) (1600 + mm g (cS g)) t (1600 + mm g (cS g)) = _
      rw [ud_same, mc' x h1]; exact h2
  · rw [eK] at e; omega
end
