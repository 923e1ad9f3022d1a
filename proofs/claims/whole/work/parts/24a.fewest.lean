/-! fewest: groups of places, finer at each round -/
section
variable (n : Nat) (T : pw_T) (A : Nat → Nat)
/-- what can be seen of going on: nothing, the end, an act and a group -/
noncomputable def sv (G : Nat → Nat) (p a : Nat) : Nat := match T p a with
  | none => 0
  | some 0 => 1
  | some (v + 1) => @ite Nat (lv n T (v + 1)) (Classical.propDecidable _) (2 + (A (v + 1) * 18 + G (v + 1))) 0
def al (G : Nat → Nat) (p q : Nat) : Prop := ∀ a, a < 4 → sv n T A G p a = sv n T A G q a
/-- q may stand for p -/
def gd (G : Nat → Nat) (q p : Nat) : Prop := lv n T q ∧ al n T A G q p
noncomputable def gs (G : Nat → Nat) (p : Nat) : Nat → Nat → Nat
  | 0, _ => p
  | f + 1, q => @ite Nat (gd n T A G q p) (Classical.propDecidable _) q (gs G p f (q + 1))
noncomputable def gn (G : Nat → Nat) (p : Nat) : Nat := gs n T A G p p 0
noncomputable def gk : Nat → Nat → Nat
  | 0 => fun _ => 0
  | k + 1 => gn n T A (gk k)
end
section
variable {n : Nat} {T : pw_T} {A : Nat → Nat}
theorem al_r (G : Nat → Nat) (p : Nat) : al n T A G p p := fun _ _ => rfl
theorem al_s {G : Nat → Nat} {p q : Nat} (h : al n T A G p q) : al n T A G q p := fun a ha => (h a ha).symm
theorem al_t {G : Nat → Nat} {p q r : Nat} (h : al n T A G p q) (h' : al n T A G q r) : al n T A G p r := fun a ha => (h a ha).trans (h' a ha)
theorem gs_p {G : Nat → Nat} {p q f : Nat} (h : gd n T A G q p) : gs n T A G p (f + 1) q = q := by
  show @ite Nat (gd n T A G q p) (Classical.propDecidable _) q _ = q
  rw [if_pos h]
theorem gs_n {G : Nat → Nat} {p q f : Nat} (h : ¬ gd n T A G q p) : gs n T A G p (f + 1) q = gs n T A G p f (q + 1) := by
  show @ite Nat (gd n T A G q p) (Classical.propDecidable _) q _ = _
  rw [if_neg h]
theorem gs_sp {G : Nat → Nat} {p : Nat} : ∀ f q, q + f = p → (∀ q', q' < q → ¬ gd n T A G q' p) → ((gs n T A G p f q < p ∧ gd n T A G (gs n T A G p f q) p) ∨ gs n T A G p f q = p) ∧ ∀ q', q' < gs n T A G p f q → ¬ gd n T A G q' p := by
  intro f
  induction f with
  | zero =>
    intro q hq hn
    obtain rfl : q = p := by omega
    exact ⟨Or.inr rfl, hn⟩
  | succ f ih =>
    intro q hq hn
    by_cases h : gd n T A G q p
    · rw [gs_p h]; exact ⟨Or.inl ⟨by omega, h⟩, hn⟩
    · rw [gs_n h]
      exact ih (q + 1) (by omega) (fun q' hq' => by
        by_cases e : q' = q
        · subst e; exact h
        · exact hn q' (by omega))
theorem gn_sp (G : Nat → Nat) (p : Nat) : ((gn n T A G p < p ∧ gd n T A G (gn n T A G p) p) ∨ gn n T A G p = p) ∧ ∀ q', q' < gn n T A G p → ¬ gd n T A G q' p :=
  gs_sp p 0 (by omega) (fun q' h => by omega)
theorem gn_le (G : Nat → Nat) (p : Nat) : gn n T A G p ≤ p := by
  rcases (gn_sp (n := n) (T := T) (A := A) G p).1 with h | h
  · omega
  · omega
theorem gn_eq {G : Nat → Nat} {p r : Nat} (h1 : (r < p ∧ gd n T A G r p) ∨ r = p) (h2 : ∀ q', q' < r → ¬ gd n T A G q' p) : gn n T A G p = r := by
  obtain ⟨a1, a2⟩ := gn_sp (n := n) (T := T) (A := A) G p
  rcases Nat.lt_trichotomy (gn n T A G p) r with c | c | c
  · rcases a1 with a1 | a1
    · exact absurd a1.2 (h2 _ c)
    · rcases h1 with h1 | h1
      · omega
      · omega
  · exact c
  · rcases h1 with h1 | h1
    · exact absurd h1.2 (a2 _ c)
    · have := gn_le (n := n) (T := T) (A := A) G p
      omega
/-- the first of a group stands for all of it -/
theorem gn_rep {G : Nat → Nat} {p : Nat} (hp : lv n T p) : lv n T (gn n T A G p) ∧ al n T A G (gn n T A G p) p ∧ gn n T A G (gn n T A G p) = gn n T A G p := by
  obtain ⟨a1, a2⟩ := gn_sp (n := n) (T := T) (A := A) G p
  have h : lv n T (gn n T A G p) ∧ al n T A G (gn n T A G p) p := by
    rcases a1 with a1 | a1
    · exact a1.2
    · rw [a1]; exact ⟨hp, al_r G p⟩
  refine ⟨h.1, h.2, gn_eq (Or.inr rfl) (fun q' hq' hg => a2 q' hq' ⟨hg.1, al_t hg.2 h.2⟩)⟩
theorem gn_al {G : Nat → Nat} {p q : Nat} (hp : lv n T p) (hq : lv n T q) (h : al n T A G p q) : gn n T A G p = gn n T A G q := by
  obtain ⟨r1, r2, _⟩ := gn_rep (A := A) (G := G) hp
  obtain ⟨s1, s2, _⟩ := gn_rep (A := A) (G := G) hq
  have a := (gn_sp (n := n) (T := T) (A := A) G p).2
  have b := (gn_sp (n := n) (T := T) (A := A) G q).2
  rcases Nat.lt_trichotomy (gn n T A G p) (gn n T A G q) with c | c | c
  · exact absurd ⟨r1, al_t r2 h⟩ (b _ c)
  · exact c
  · exact absurd ⟨s1, al_t s2 (al_s h)⟩ (a _ c)
theorem al_gn {G : Nat → Nat} {p q : Nat} (hp : lv n T p) (hq : lv n T q) (h : gn n T A G p = gn n T A G q) : al n T A G p q := by
  obtain ⟨_, r2, _⟩ := gn_rep (A := A) (G := G) hp
  obtain ⟨_, s2, _⟩ := gn_rep (A := A) (G := G) hq
  rw [h] at r2
  exact al_t (al_s r2) s2
theorem gk_le : ∀ k p, gk n T A k p ≤ p
  | 0, p => Nat.zero_le p
  | k + 1, p => gn_le _ p
theorem sv_l {G : Nat → Nat} {p a v : Nat} (e : T p a = some (v + 1)) (h : lv n T (v + 1)) : sv n T A G p a = 2 + (A (v + 1) * 18 + G (v + 1)) := by
  unfold sv; rw [e]
  show @ite Nat (lv n T (v + 1)) (Classical.propDecidable _) _ 0 = _
  rw [if_pos h]
theorem sv_n {G : Nat → Nat} {p a v : Nat} (e : T p a = some (v + 1)) (h : ¬ lv n T (v + 1)) : sv n T A G p a = 0 := by
  unfold sv; rw [e]
  show @ite Nat (lv n T (v + 1)) (Classical.propDecidable _) _ 0 = _
  rw [if_neg h]
theorem sv_0 {G : Nat → Nat} {p a : Nat} (e : T p a = some 0) : sv n T A G p a = 1 := by unfold sv; rw [e]
theorem sv_x {G : Nat → Nat} {p a : Nat} (e : T p a = none) : sv n T A G p a = 0 := by unfold sv; rw [e]
/-- what is seen, by cases -/
theorem sv_c (G : Nat → Nat) (p a : Nat) : (sv n T A G p a = 0 ∧ ∀ G', sv n T A G' p a = 0) ∨ (sv n T A G p a = 1 ∧ ∀ G', sv n T A G' p a = 1) ∨ ∃ v, T p a = some (v + 1) ∧ lv n T (v + 1) ∧ ∀ G', sv n T A G' p a = 2 + (A (v + 1) * 18 + G' (v + 1)) := by
  cases e : T p a with
  | none => exact Or.inl ⟨sv_x e, fun G' => sv_x e⟩
  | some v => cases v with
    | zero => exact Or.inr (Or.inl ⟨sv_0 e, fun G' => sv_0 e⟩)
    | succ v =>
      by_cases h : lv n T (v + 1)
      · exact Or.inr (Or.inr ⟨v, rfl, h, fun G' => sv_l e h⟩)
      · exact Or.inl ⟨sv_n e h, fun G' => sv_n e h⟩
theorem al_down {k : Nat} (g : pw_g n T) (hn : n ≤ 16) (ih : ∀ v w, lv n T v → lv n T w → gk n T A (k + 1) v = gk n T A (k + 1) w → gk n T A k v = gk n T A k w) {p q : Nat} (hp : p ≤ n) (hq : q ≤ n) (h : al n T A (gk n T A (k + 1)) p q) : al n T A (gk n T A k) p q := by
  intro a ha
  have e := h a ha
  rcases sv_c (n := n) (T := T) (A := A) (gk n T A (k + 1)) p a with ⟨x1, x2⟩ | ⟨x1, x2⟩ | ⟨v, tv, lvv, x2⟩
  · rcases sv_c (n := n) (T := T) (A := A) (gk n T A (k + 1)) q a with ⟨y1, y2⟩ | ⟨y1, y2⟩ | ⟨w, tw, lvw, y2⟩
    · rw [x2, y2]
    · rw [x1, y1] at e; omega
    · rw [x1, y2] at e; omega
  · rcases sv_c (n := n) (T := T) (A := A) (gk n T A (k + 1)) q a with ⟨y1, y2⟩ | ⟨y1, y2⟩ | ⟨w, tw, lvw, y2⟩
    · rw [x1, y1] at e; omega
    · rw [x2, y2]
    · rw [x1, y2] at e; omega
  · rcases sv_c (n := n) (T := T) (A := A) (gk n T A (k + 1)) q a with ⟨y1, y2⟩ | ⟨y1, y2⟩ | ⟨w, tw, lvw, y2⟩
    · rw [x2, y1] at e; omega
    · rw [x2, y1] at e; omega
    · rw [x2, y2] at e
      have b1 := gk_le (n := n) (T := T) (A := A) (k + 1) (v + 1)
      have b2 := gk_le (n := n) (T := T) (A := A) (k + 1) (w + 1)
      have c1 := g p a _ hp ha tv
      have c2 := g q a _ hq ha tw
      have e1 : A (v + 1) = A (w + 1) := by omega
      have e2 : gk n T A (k + 1) (v + 1) = gk n T A (k + 1) (w + 1) := by omega
      rw [x2, y2, e1, ih _ _ lvv lvw e2]
theorem lv_le (g : pw_g n T) {p : Nat} (h : lv n T p) : p ≤ n := qR_le g n p h.1
theorem gk_down (g : pw_g n T) (hn : n ≤ 16) : ∀ k v w, lv n T v → lv n T w → gk n T A (k + 1) v = gk n T A (k + 1) w → gk n T A k v = gk n T A k w
  | 0, _, _, _, _, _ => rfl
  | k + 1, v, w, hv, hw, h => by
    have a := al_gn hv hw h
    exact gn_al hv hw (al_down g hn (gk_down g hn k) (lv_le g hv) (lv_le g hw) a)
def rps (n : Nat) (T : pw_T) (A : Nat → Nat) (k p : Nat) : Prop := lv n T p ∧ gk n T A k p = p
theorem rps_s (g : pw_g n T) (hn : n ≤ 16) : ∀ k p, p < n + 1 → rps n T A k p → rps n T A (k + 1) p
  | 0, p, _, h => by
    have e : (0 : Nat) = p := h.2
    subst e
    exact ⟨h.1, Nat.le_zero.mp (gn_le _ 0)⟩
  | k + 1, p, hp, h => by
    refine ⟨h.1, gn_eq (Or.inr rfl) (fun q hq hg => ?_)⟩
    have a := (gn_sp (n := n) (T := T) (A := A) (gk n T A k) p).2
    have e : gn n T A (gk n T A k) p = p := h.2
    rw [e] at a
    exact a q hq ⟨hg.1, al_down g hn (gk_down g hn k) (by omega) (by omega) hg.2⟩
/-- the groups of a round that told nothing more apart are those of the round ahead -/
theorem gk_st (g : pw_g n T) (hn : n ≤ 16) {k : Nat} (h : st_at (rps n T A) (n + 1) k) {v : Nat} (hv : lv n T v) : gk n T A (k + 1) v = gk n T A k v := by
  obtain ⟨r1, r2, r3⟩ := gn_rep (A := A) (G := gk n T A k) hv
  have e : gk n T A (k + 1) (gk n T A (k + 1) v) = gk n T A (k + 1) v := r3
  have b := h (gk n T A (k + 1) v) (Nat.lt_succ_of_le (lv_le g r1)) ⟨r1, e⟩
  have c := gk_down (A := A) g hn k v (gk n T A (k + 1) v) hv r1 e.symm
  rw [c, b.2]
theorem sv_g {G G' : Nat → Nat} (h : ∀ v, lv n T v → G v = G' v) (p a : Nat) : sv n T A G p a = sv n T A G' p a := by
  rcases sv_c (n := n) (T := T) (A := A) G p a with ⟨x1, x2⟩ | ⟨x1, x2⟩ | ⟨v, tv, lvv, x2⟩
  · rw [x1, x2]
  · rw [x1, x2]
  · rw [x2, x2, h _ lvv]
theorem gn_g {G G' : Nat → Nat} (h : ∀ v, lv n T v → G v = G' v) (p : Nat) : gn n T A G p = gn n T A G' p := by
  have c : ∀ q, gd n T A G q p ↔ gd n T A G' q p := fun q => by
    constructor
    · exact fun x => ⟨x.1, fun a ha => by rw [← sv_g h, ← sv_g h]; exact x.2 a ha⟩
    · exact fun x => ⟨x.1, fun a ha => by rw [sv_g h, sv_g h]; exact x.2 a ha⟩
  obtain ⟨a1, a2⟩ := gn_sp (n := n) (T := T) (A := A) G' p
  refine gn_eq ?_ (fun q hq hg => a2 q hq ((c q).mp hg))
  rcases a1 with a1 | a1
  · exact Or.inl ⟨a1.1, (c _).mpr a1.2⟩
  · exact Or.inr a1
theorem lv_0 (g : pw_g n T) {p : Nat} (h : lv n T p) : lv n T 0 := by
  have go : ∀ k q, qR n T k q → (∃ i, pD n T i q) → ∃ i, pD n T i 0 := by
    intro k
    induction k with
    | zero =>
      intro q hq hi
      have e : q = 0 := hq
      subst e; exact hi
    | succ k ih =>
      rintro q (hq | ⟨q', a, h1, h2, h3, h4, h5⟩) ⟨i, hi⟩
      · exact ih q hq ⟨i, hi⟩
      · exact ih q' h3 ⟨i, pD_s g h1 h2 h4 h5 hi⟩
  exact ⟨qD_0 n T, go n p h.1 h.2⟩
theorem rps_all (g : pw_g n T) (hn : n ≤ 16) : ∀ k p, p < n + 1 → rps n T A k p → rps n T A n p := by
  refine st_all (rps_s g hn) (fun k st p hp h => ?_) ?_
  · have e : ∀ v, lv n T v → gk n T A (k + 1) v = gk n T A k v := fun v hv => gk_st g hn st hv
    refine ⟨h.1, ?_⟩
    have h2 : gn n T A (gk n T A (k + 1)) p = p := h.2
    rw [gn_g e] at h2
    exact h2
  · by_cases h0 : lv n T 0
    · exact Or.inl (ct_pos (p := 0) (n + 1) (by omega) ⟨h0, rfl⟩)
    · exact Or.inr fun p hp h => absurd (lv_0 g h.1) h0
end
