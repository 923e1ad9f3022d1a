/-! a program's steps on both sides: where it goes without acts -/
def cr (K : Nat → Nat) (W : Nat → Int32) (J : Nat → Option Nat) (S a : Nat) : Nat → Nat → Option (Option Nat)
  | 0, _ => none
  | f + 1, x => if S ≤ x then some (some 0) else if K x = 1 then some (J x) else if bt (W x) a = true then cr K W J S a f (x + 1) else match J x with
    | none => some none
    | some t => cr K W J S a f t
def mr (D : Nat → Nat) (V : Nat → Int32) (L Q : Nat → Option Nat) (a : Nat) : Nat → Nat → Option (Option Nat)
  | 0, _ => none
  | f + 1, y => if D y = 0 then some (L y) else if D y = 4 then some (some 0) else if D y = 3 then some none else if D y = 1 ∧ bt (V y) a = true then mr D V L Q a f (y + 1) else match Q y with
    | none => some none
    | some t => mr D V L Q a f t
def cm (K : Nat → Nat) (W : Nat → Int32) (J : Nat → Option Nat) (S : Nat) (D : Nat → Nat) (V : Nat → Int32) (L Q : Nat → Option Nat) (m : Nat → Nat) : Prop :=
  (∀ x, x < S →
    (K x = 0 ∧ W x = ii 15 ∧ m (x + 1) = m x) ∨
    (K x = 0 ∧ W x = ii 0 ∧ J x = none ∧ D (m x) = 3) ∨
    (K x = 1 ∧ D (m x) = 0 ∧ L (m x) = J x) ∨
    (K x ≠ 1 ∧ D (m x) = 1 ∧ V (m x) = W x ∧ m (x + 1) = m x + 1 ∧ Q (m x) = (J x).map m ∧ ∀ t, J x = some t → t ≤ S) ∨
    (K x ≠ 1 ∧ W x = ii 0 ∧ D (m x) = 2 ∧ Q (m x) = (J x).map m ∧ ∃ t, t ≤ S ∧ J x = some t)) ∧ D (m S) = 4
section
variable {K : Nat → Nat} {W : Nat → Int32} {J : Nat → Option Nat} {S : Nat} {D : Nat → Nat} {V : Nat → Int32} {L Q : Nat → Option Nat} {m : Nat → Nat} {a : Nat}
theorem bt_15 {a : Nat} (h : a < 4) : bt (ii 15) a = true := by
  have t : ∀ a : Fin 4, bt (ii 15) a.1 = true := by decide +kernel
  exact t ⟨a, h⟩
theorem cr_end {f x : Nat} (h : S ≤ x) : cr K W J S a (f + 1) x = some (some 0) := by rw [cr, if_pos h]
theorem cr_act {f x : Nat} (h : x < S) (hk : K x = 1) : cr K W J S a (f + 1) x = some (J x) := by rw [cr, if_neg (by omega), if_pos hk]
theorem cr_on {f x : Nat} (h : x < S) (hk : K x ≠ 1) (hb : bt (W x) a = true) : cr K W J S a (f + 1) x = cr K W J S a f (x + 1) := by rw [cr, if_neg (by omega), if_neg hk, if_pos hb]
theorem cr_no {f x : Nat} (h : x < S) (hk : K x ≠ 1) (hb : ¬ bt (W x) a = true) (hj : J x = none) : cr K W J S a (f + 1) x = some none := by rw [cr, if_neg (by omega), if_neg hk, if_neg hb, hj]
theorem cr_to {f x t : Nat} (h : x < S) (hk : K x ≠ 1) (hb : ¬ bt (W x) a = true) (hj : J x = some t) : cr K W J S a (f + 1) x = cr K W J S a f t := by rw [cr, if_neg (by omega), if_neg hk, if_neg hb, hj]
theorem mr_s : ∀ f y r, mr D V L Q a f y = some r → mr D V L Q a (f + 1) y = some r
  | 0, _, _, h => by cases h
  | f + 1, y, r, h => by
    rw [mr] at h
    rw [mr]
    by_cases h0 : D y = 0
    · rw [if_pos h0] at h ⊢; exact h
    · rw [if_neg h0] at h ⊢
      by_cases h4 : D y = 4
      · rw [if_pos h4] at h ⊢; exact h
      · rw [if_neg h4] at h ⊢
        by_cases h3 : D y = 3
        · rw [if_pos h3] at h ⊢; exact h
        · rw [if_neg h3] at h ⊢
          by_cases h1 : D y = 1 ∧ bt (V y) a = true
          · rw [if_pos h1] at h ⊢; exact mr_s f _ r h
          · rw [if_neg h1] at h ⊢
            cases e : Q y with
            | none => rw [e] at h; exact h
            | some t => rw [e] at h; exact mr_s f _ r h
theorem mr_up {f f' y : Nat} {r : Option Nat} (hf : f ≤ f') (h : mr D V L Q a f y = some r) : mr D V L Q a f' y = some r := by
  obtain ⟨d, rfl⟩ : ∃ d, f' = f + d := ⟨f' - f, by omega⟩
  clear hf
  induction d with
  | zero => exact h
  | succ d ih => exact mr_s _ _ _ ih
theorem mr_act {f y : Nat} (h : D y = 0) : mr D V L Q a (f + 1) y = some (L y) := by rw [mr, if_pos h]
theorem mr_end {f y : Nat} (h : D y = 4) : mr D V L Q a (f + 1) y = some (some 0) := by rw [mr, if_neg (by omega), if_pos h]
theorem mr_stop {f y : Nat} (h : D y = 3) : mr D V L Q a (f + 1) y = some none := by rw [mr, if_neg (by omega), if_neg (by omega), if_pos h]
theorem mr_on {f y : Nat} (h : D y = 1) (hb : bt (V y) a = true) : mr D V L Q a (f + 1) y = mr D V L Q a f (y + 1) := by rw [mr, if_neg (by omega), if_neg (by omega), if_neg (by omega), if_pos ⟨h, hb⟩]
theorem mr_off {f y : Nat} (h : (D y = 1 ∧ ¬ bt (V y) a = true) ∨ D y = 2) : mr D V L Q a (f + 1) y = match Q y with
    | none => some none
    | some t => mr D V L Q a f t := by
  rw [mr, if_neg (by omega), if_neg (by omega), if_neg (by omega), if_neg (fun x => by rcases h with h | h; exact h.2 x.2; omega)]
theorem mr_no {f y : Nat} (h : (D y = 1 ∧ ¬ bt (V y) a = true) ∨ D y = 2) (hq : Q y = none) : mr D V L Q a (f + 1) y = some none := by rw [mr_off h, hq]
theorem mr_to {f y t : Nat} (h : (D y = 1 ∧ ¬ bt (V y) a = true) ∨ D y = 2) (hq : Q y = some t) : mr D V L Q a (f + 1) y = mr D V L Q a f t := by rw [mr_off h, hq]
theorem z_bt {a : Nat} : ¬ bt (ii 0) a = true := by rw [bt_zero]; decide
/-- what the class's walk comes to, the reference's comes to -/
theorem cr_mr (h : cm K W J S D V L Q m) (ha : a < 4) : ∀ f x r, x ≤ S → cr K W J S a f x = some r → mr D V L Q a f (m x) = some r
  | 0, _, _, _, e => by cases e
  | f + 1, x, r, hx, e => by
    by_cases hS : x = S
    · subst hS
      rw [cr_end (Nat.le_refl _)] at e
      rw [mr_end h.2]; exact e
    · have hx' : x < S := by omega
      rcases h.1 x hx' with ⟨k, w, q⟩ | ⟨k, w, j, d⟩ | ⟨k, d, l⟩ | ⟨k, d, w, q, g, t⟩ | ⟨k, w, d, g, t, ht, hj⟩
      · rw [cr_on hx' (by omega) (by rw [w]; exact bt_15 ha)] at e
        rw [← q]
        exact mr_s _ _ _ (cr_mr h ha f (x + 1) r (by omega) e)
      · rw [cr_no hx' (by omega) (by rw [w]; exact z_bt) j] at e
        rw [mr_stop d]; exact e
      · rw [cr_act hx' k] at e
        rw [mr_act d, l]; exact e
      · by_cases b : bt (W x) a = true
        · rw [cr_on hx' k b] at e
          rw [mr_on d (by rw [w]; exact b), ← q]
          exact cr_mr h ha f (x + 1) r (by omega) e
        · have off : (D (m x) = 1 ∧ ¬ bt (V (m x)) a = true) ∨ D (m x) = 2 := Or.inl ⟨d, by rw [w]; exact b⟩
          cases ej : J x with
          | none =>
            rw [cr_no hx' k b ej] at e
            rw [mr_no off (by rw [g, ej]; rfl)]; exact e
          | some u =>
            rw [cr_to hx' k b ej] at e
            rw [mr_to off (by rw [g, ej]; rfl)]
            exact cr_mr h ha f u r (t u ej) e
      · rw [cr_to hx' k (by rw [w]; exact z_bt) hj] at e
        rw [mr_to (Or.inr d) (by rw [g, hj]; rfl)]
        exact cr_mr h ha f t r ht e
/-- and back -/
theorem mr_cr (h : cm K W J S D V L Q m) (ha : a < 4) : ∀ f d x r, x + d = S → mr D V L Q a f (m x) = some r → ∃ f', cr K W J S a f' x = some r := by
  intro f
  induction f with
  | zero => intro d x r _ e; cases e
  | succ f ihf =>
    intro d
    induction d with
    | zero =>
      intro x r hx e
      obtain rfl : x = S := by omega
      rw [mr_end h.2] at e
      exact ⟨1, by rw [cr_end (Nat.le_refl _)]; exact e⟩
    | succ d ihd =>
      intro x r hx e
      have hx' : x < S := by omega
      rcases h.1 x hx' with ⟨k, w, q⟩ | ⟨k, w, j, d'⟩ | ⟨k, d', l⟩ | ⟨k, d', w, q, g, t⟩ | ⟨k, w, d', g, t, ht, hj⟩
      · rw [← q] at e
        obtain ⟨f', e'⟩ := ihd (x + 1) r (by omega) e
        exact ⟨f' + 1, by rw [cr_on hx' (by omega) (by rw [w]; exact bt_15 ha)]; exact e'⟩
      · rw [mr_stop d'] at e
        exact ⟨1, by rw [cr_no hx' (by omega) (by rw [w]; exact z_bt) j]; exact e⟩
      · rw [mr_act d', l] at e
        exact ⟨1, by rw [cr_act hx' k]; exact e⟩
      · by_cases b : bt (W x) a = true
        · rw [mr_on d' (by rw [w]; exact b), ← q] at e
          obtain ⟨f', e'⟩ := ihf d (x + 1) r (by omega) e
          exact ⟨f' + 1, by rw [cr_on hx' k b]; exact e'⟩
        · have off : (D (m x) = 1 ∧ ¬ bt (V (m x)) a = true) ∨ D (m x) = 2 := Or.inl ⟨d', by rw [w]; exact b⟩
          cases ej : J x with
          | none =>
            rw [mr_no off (by rw [g, ej]; rfl)] at e
            exact ⟨1, by rw [cr_no hx' k b ej]; exact e⟩
          | some u =>
            rw [mr_to off (by rw [g, ej]; rfl)] at e
            have := t u ej
            obtain ⟨f', e'⟩ := ihf (S - u) u r (by omega) e
            exact ⟨f' + 1, by rw [cr_to hx' k b ej]; exact e'⟩
      · rw [mr_to (Or.inr d') (by rw [g, hj]; rfl)] at e
        obtain ⟨f', e'⟩ := ihf (S - t) t r (by omega) e
        exact ⟨f' + 1, by rw [cr_to hx' k (by rw [w]; exact z_bt) hj]; exact e'⟩
theorem cr_s : ∀ f x r, cr K W J S a f x = some r → cr K W J S a (f + 1) x = some r
  | 0, _, _, h => by cases h
  | f + 1, x, r, h => by
    rw [cr] at h
    rw [cr]
    by_cases h0 : S ≤ x
    · rw [if_pos h0] at h ⊢; exact h
    · rw [if_neg h0] at h ⊢
      by_cases h1 : K x = 1
      · rw [if_pos h1] at h ⊢; exact h
      · rw [if_neg h1] at h ⊢
        by_cases b : bt (W x) a = true
        · rw [if_pos b] at h ⊢; exact cr_s f _ r h
        · rw [if_neg b] at h ⊢
          cases e : J x with
          | none => rw [e] at h; exact h
          | some t => rw [e] at h; exact cr_s f _ r h
theorem cr_up {f f' x : Nat} {r : Option Nat} (hf : f ≤ f') (h : cr K W J S a f x = some r) : cr K W J S a f' x = some r := by
  obtain ⟨d, rfl⟩ : ∃ d, f' = f + d := ⟨f' - f, by omega⟩
  clear hf
  induction d with
  | zero => exact h
  | succ d ih => exact cr_s _ _ _ ih
/-- a walk that ends takes no more steps than there are -/
theorem cr_few (ht : ∀ x t, x < S → K x ≠ 1 → J x = some t → t ≤ S) {f x : Nat} {r : Option Nat} (hx : x ≤ S) (h : cr K W J S a f x = some r) : cr K W J S a (S + 1) x = some r := by
  have all := st_all (S := fun k p => ∃ r, cr K W J S a (k + 1) p = some r) (n := S) (fun k p _ ⟨r, e⟩ => ⟨r, cr_s _ _ _ e⟩) (fun k st p hp ⟨r, e⟩ => ?_) (Or.inl (ct_pos (p := S) (S + 1) (by omega) ⟨_, cr_end (f := 0) (Nat.le_refl _)⟩))
  · cases f with
    | zero => cases h
    | succ f =>
      obtain ⟨r', e⟩ := all f x (by omega) ⟨r, h⟩
      have a1 := cr_up (f' := f + 1 + (S + 1)) (by omega) h
      have a2 := cr_up (f' := f + 1 + (S + 1)) (by omega) e
      rw [a1] at a2
      rw [e]; exact a2.symm
  · by_cases h0 : S ≤ p
    · exact ⟨_, cr_end h0⟩
    · have hp' : p < S := by omega
      by_cases h1 : K p = 1
      · exact ⟨_, cr_act hp' h1⟩
      · by_cases b : bt (W p) a = true
        · rw [cr_on hp' h1 b] at e
          obtain ⟨r', e'⟩ := st (p + 1) (by omega) ⟨r, e⟩
          exact ⟨r', by rw [cr_on hp' h1 b]; exact e'⟩
        · cases ej : J p with
          | none => exact ⟨_, cr_no hp' h1 b ej⟩
          | some t =>
            rw [cr_to hp' h1 b ej] at e
            have := ht p t hp' h1 ej
            obtain ⟨r', e'⟩ := st t (by omega) ⟨r, e⟩
            exact ⟨r', by rw [cr_to hp' h1 b ej]; exact e'⟩
def rj (o : Option (Option Nat)) : Option Nat := match o with
  | some r => r
  | none => none
/-- both tables' numbers -/
theorem rn_eq (h : cm K W J S D V L Q m) (ha : a < 4) (ht : ∀ x t, x < S → K x ≠ 1 → J x = some t → t ≤ S) (hS : S ≤ 300) {x : Nat} (hx : x ≤ S) : rj (mr D V L Q a 401 (m x)) = rj (cr K W J S a (S + 1) x) := by
  cases e : cr K W J S a (S + 1) x with
  | some r => rw [mr_up (show S + 1 ≤ 401 by omega) (cr_mr h ha _ x r hx e)]
  | none =>
    cases e' : mr D V L Q a 401 (m x) with
    | none => rfl
    | some r =>
      obtain ⟨f', q⟩ := mr_cr h ha 401 (S - x) x r (by omega) e'
      rw [cr_few ht hx q] at e; cases e
end
