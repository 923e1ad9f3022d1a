/-! two programs side by side: the class's pairs of places, the reference's pairs of targets -/
def tx (n : Nat) (T : pw_T) (p a : Nat) : Option Nat := if p ≤ n then T p a else none
def gb (n : Nat) (T : pw_T) (A : Nat → Nat) (p a b : Nat) : Nat := match tx n T p a with
  | some (v + 1) => if A (v + 1) = b then v + 1 else 17
  | _ => 17
def en (o : Option Nat) : Nat := match o with
  | none => 0
  | some v => v + 1
def cd (y : Nat) : Option Nat := if y = 0 then none else some y
def st_c (n1 n2 : Nat) (T1 T2 : pw_T) (A1 A2 : Nat → Nat) (y e : Nat) : Option Nat :=
  if gb n1 T1 A1 (y / 18) (e / 3) (e % 3 + 1) = 17 ∧ gb n2 T2 A2 (y % 18) (e / 3) (e % 3 + 1) = 17 then none
  else some (gb n1 T1 A1 (y / 18) (e / 3) (e % 3 + 1) * 18 + gb n2 T2 A2 (y % 18) (e / 3) (e % 3 + 1))
def ini_c (_ : Nat) : Option Nat := some 0
def nx (T : pw_T) (A : Nat → Nat) (u b a : Nat) : Option Nat := if 2 ≤ u ∧ A (u - 1) = b then T (u - 1) a else none
def st_m (T1 T2 : pw_T) (A1 A2 : Nat → Nat) (y d : Nat) : Option Nat :=
  cd (18 * en (nx T1 A1 (y / 18) (d / 4 + 1) (d % 4)) + en (nx T2 A2 (y % 18) (d / 4 + 1) (d % 4)))
def ini_m (T1 T2 : pw_T) (a : Nat) : Option Nat := cd (18 * en (T1 0 a) + en (T2 0 a))
def tg (n1 n2 : Nat) (T1 T2 : pw_T) (y a : Nat) : Option Nat := cd (18 * en (tx n1 T1 (y / 18) a) + en (tx n2 T2 (y % 18) a))
def te (w : Bool) (y : Nat) : Prop := (y / 18 = 1 ∧ y % 18 ≠ 1) ∨ (w = true ∧ y % 18 = 1 ∧ y / 18 ≠ 1)
theorem tx_le {n : Nat} {T : pw_T} (g : pw_g n T) {p a v : Nat} (ha : a < 4) (h : tx n T p a = some v) : v ≤ n := by
  unfold tx at h
  by_cases hp : p ≤ n
  · rw [if_pos hp] at h; exact g p a v hp ha h
  · rw [if_neg hp] at h; cases h
theorem gb_le {n : Nat} {T : pw_T} {A : Nat → Nat} (g : pw_g n T) (hn : n ≤ 16) {p a b : Nat} (ha : a < 4) : gb n T A p a b ≤ 17 := by
  unfold gb
  cases e : tx n T p a with
  | none => exact Nat.le_refl _
  | some v => cases v with
    | zero => exact Nat.le_refl _
    | succ v =>
      have := tx_le g ha e
      show (if A (v + 1) = b then v + 1 else 17) ≤ 17
      by_cases q : A (v + 1) = b
      · rw [if_pos q]; omega
      · rw [if_neg q]; omega
theorem en_le {n : Nat} {o : Option Nat} (h : ∀ v, o = some v → v ≤ n) : en o ≤ n + 1 := by
  cases o with
  | none => exact Nat.zero_le _
  | some v => have := h v rfl; show v + 1 ≤ n + 1; omega
/-- going on by an act and an atom, seen from the place ahead of the act's target -/
theorem nx_gb {n : Nat} {T : pw_T} {A : Nat → Nat} (g : pw_g n T) (hn : n ≤ 16) {p a b a' : Nat} (ha : a < 4) : nx T A (en (tx n T p a)) b a' = tx n T (gb n T A p a b) a' := by
  unfold nx gb
  cases e : tx n T p a with
  | none =>
    rw [if_neg (fun x => absurd x.1 (show ¬ 2 ≤ 0 by omega))]
    show none = tx n T 17 a'
    rw [tx, if_neg (by omega)]
  | some v => cases v with
    | zero =>
      rw [if_neg (fun x => absurd x.1 (show ¬ 2 ≤ 0 + 1 by omega))]
      show none = tx n T 17 a'
      rw [tx, if_neg (by omega)]
    | succ v =>
      have := tx_le g ha e
      show (if 2 ≤ v + 1 + 1 ∧ A (v + 1) = b then T (v + 1) a' else none) = tx n T (if A (v + 1) = b then v + 1 else 17) a'
      by_cases q : A (v + 1) = b
      · rw [if_pos ⟨by omega, q⟩, if_pos q, tx, if_pos this]
      · rw [if_neg (fun x => q x.2), if_neg q, tx, if_neg (by omega)]
section
variable {n1 n2 : Nat} {T1 T2 : pw_T} {A1 A2 : Nat → Nat}
theorem cd_lt {x y : Nat} (hy : y < 18) (h : cd (18 * x + y) = none) : x = 0 ∧ y = 0 := by
  unfold cd at h
  by_cases e : 18 * x + y = 0
  · omega
  · rw [if_neg e] at h; cases h
theorem cd_of {x y t : Nat} (hy : y < 18) (h : cd (18 * x + y) = some t) : t / 18 = x ∧ t % 18 = y := by
  unfold cd at h
  by_cases e : 18 * x + y = 0
  · rw [if_pos e] at h; cases h
  · rw [if_neg e] at h
    have := Option.some.inj h
    omega
theorem en_t {n : Nat} {T : pw_T} (g : pw_g n T) (hn : n ≤ 16) {p a : Nat} (ha : a < 4) : en (tx n T p a) < 18 := by
  have := en_le (n := n) (o := tx n T p a) (fun v h => tx_le g ha h)
  omega
theorem tg_st (g1 : pw_g n1 T1) (g2 : pw_g n2 T2) (h1 : n1 ≤ 16) (h2 : n2 ≤ 16) {y e a' : Nat} (he : e < 12) (ha : a' < 4) :
    (tg n1 n2 T1 T2 y (e / 3)).bind (fun t => st_m T1 T2 A1 A2 t (4 * (e % 3) + a')) = (st_c n1 n2 T1 T2 A1 A2 y e).bind (fun w => tg n1 n2 T1 T2 w a') := by
  have e1 := en_t (p := y / 18) g1 h1 (show e / 3 < 4 by omega)
  have e2 := en_t (p := y % 18) g2 h2 (show e / 3 < 4 by omega)
  have b1 := gb_le (A := A1) (p := y / 18) (b := e % 3 + 1) g1 h1 (show e / 3 < 4 by omega)
  have b2 := gb_le (A := A2) (p := y % 18) (b := e % 3 + 1) g2 h2 (show e / 3 < 4 by omega)
  have x1 := nx_gb (A := A1) (p := y / 18) (b := e % 3 + 1) (a' := a') g1 h1 (show e / 3 < 4 by omega)
  have x2 := nx_gb (A := A2) (p := y % 18) (b := e % 3 + 1) (a' := a') g2 h2 (show e / 3 < 4 by omega)
  have k1 : (4 * (e % 3) + a') / 4 = e % 3 := by omega
  have k2 : (4 * (e % 3) + a') % 4 = a' := by omega
  have L : ∀ t, t / 18 = en (tx n1 T1 (y / 18) (e / 3)) → t % 18 = en (tx n2 T2 (y % 18) (e / 3)) → st_m T1 T2 A1 A2 t (4 * (e % 3) + a') = cd (18 * en (tx n1 T1 (gb n1 T1 A1 (y / 18) (e / 3) (e % 3 + 1)) a') + en (tx n2 T2 (gb n2 T2 A2 (y % 18) (e / 3) (e % 3 + 1)) a')) := by
    intro t q1 q2
    unfold st_m
    rw [k1, k2, q1, q2, x1, x2]
  unfold st_c
  by_cases q : gb n1 T1 A1 (y / 18) (e / 3) (e % 3 + 1) = 17 ∧ gb n2 T2 A2 (y % 18) (e / 3) (e % 3 + 1) = 17
  · rw [if_pos q]
    show _ = none
    cases et : tg n1 n2 T1 T2 y (e / 3) with
    | none => rfl
    | some t =>
      obtain ⟨q1, q2⟩ := cd_of e2 et
      show st_m T1 T2 A1 A2 t (4 * (e % 3) + a') = none
      rw [L t q1 q2, q.1, q.2, tx, if_neg (by omega), tx, if_neg (by omega)]; rfl
  · rw [if_neg q]
    show _ = tg n1 n2 T1 T2 (gb n1 T1 A1 (y / 18) (e / 3) (e % 3 + 1) * 18 + gb n2 T2 A2 (y % 18) (e / 3) (e % 3 + 1)) a'
    have d1 : (gb n1 T1 A1 (y / 18) (e / 3) (e % 3 + 1) * 18 + gb n2 T2 A2 (y % 18) (e / 3) (e % 3 + 1)) / 18 = gb n1 T1 A1 (y / 18) (e / 3) (e % 3 + 1) := by omega
    have d2 : (gb n1 T1 A1 (y / 18) (e / 3) (e % 3 + 1) * 18 + gb n2 T2 A2 (y % 18) (e / 3) (e % 3 + 1)) % 18 = gb n2 T2 A2 (y % 18) (e / 3) (e % 3 + 1) := by omega
    unfold tg at *
    rw [d1, d2]
    cases et : cd (18 * en (tx n1 T1 (y / 18) (e / 3)) + en (tx n2 T2 (y % 18) (e / 3))) with
    | none =>
      obtain ⟨q1, q2⟩ := cd_lt e2 et
      have z1 : gb n1 T1 A1 (y / 18) (e / 3) (e % 3 + 1) = 17 := by
        unfold gb
        cases et : tx n1 T1 (y / 18) (e / 3) with
        | none => rfl
        | some v => rw [et] at q1; exact absurd q1 (by show ¬ (v + 1 = 0); omega)
      have z2 : gb n2 T2 A2 (y % 18) (e / 3) (e % 3 + 1) = 17 := by
        unfold gb
        cases et : tx n2 T2 (y % 18) (e / 3) with
        | none => rfl
        | some v => rw [et] at q2; exact absurd q2 (by show ¬ (v + 1 = 0); omega)
      exact absurd ⟨z1, z2⟩ q
    | some t =>
      obtain ⟨q1, q2⟩ := cd_of e2 et
      show st_m T1 T2 A1 A2 t (4 * (e % 3) + a') = _
      rw [L t q1 q2]
theorem ta_cm (g1 : pw_g n1 T1) (g2 : pw_g n2 T2) (h1 : n1 ≤ 16) (h2 : n2 ≤ 16) : ∀ n c a, a < 4 →
    ta 4 (ini_m T1 T2) (st_m T1 T2 A1 A2) n (4 * c + a) = (ta 1 ini_c (st_c n1 n2 T1 T2 A1 A2) n c).bind fun y => tg n1 n2 T1 T2 y a
  | 0, c, a, ha => by
    show (if 4 * c + a < 4 then ini_m T1 T2 (4 * c + a) else none) = (if c < 1 then ini_c c else none).bind _
    by_cases q : c < 1
    · obtain rfl : c = 0 := by omega
      rw [if_pos (by omega), if_pos q]
      show ini_m T1 T2 (4 * 0 + a) = tg n1 n2 T1 T2 0 a
      unfold ini_m tg
      rw [show 4 * 0 + a = a by omega, tx, if_pos (by omega), tx, if_pos (by omega)]
    · rw [if_neg (by omega), if_neg q]; rfl
  | n + 1, c, a, ha => by
    show (ta 4 (ini_m T1 T2) (st_m T1 T2 A1 A2) n ((4 * c + a) / 12)).bind (fun y => st_m T1 T2 A1 A2 y ((4 * c + a) % 12)) = ((ta 1 ini_c (st_c n1 n2 T1 T2 A1 A2) n (c / 12)).bind fun y => st_c n1 n2 T1 T2 A1 A2 y (c % 12)).bind _
    have k1 : (4 * c + a) / 12 = 4 * (c / 12) + (c % 12) / 3 := by omega
    have k2 : (4 * c + a) % 12 = 4 * ((c % 12) % 3) + a := by omega
    rw [k1, k2, ta_cm g1 g2 h1 h2 n (c / 12) ((c % 12) / 3) (by omega)]
    cases ta 1 ini_c (st_c n1 n2 T1 T2 A1 A2) n (c / 12) with
    | none => rfl
    | some y => exact tg_st g1 g2 h1 h2 (by omega) ha
/-- what is asked for: no row tells, or (n, x) is the first that does -/
def sp_no (T1 T2 : pw_T) (A1 A2 : Nat → Nat) (w : Bool) : Prop := ∀ n x y, ta 4 (ini_m T1 T2) (st_m T1 T2 A1 A2) n x = some y → ¬ te w y
def sp_at (T1 T2 : pw_T) (A1 A2 : Nat → Nat) (w : Bool) (n x : Nat) : Prop :=
  (∃ y, ta 4 (ini_m T1 T2) (st_m T1 T2 A1 A2) n x = some y ∧ te w y) ∧ ∀ n' x' y', ta 4 (ini_m T1 T2) (st_m T1 T2 A1 A2) n' x' = some y' → te w y' → o3 n x n' x'
theorem sp_u {w : Bool} {n x n' x' : Nat} (h : sp_at T1 T2 A1 A2 w n x) (h' : sp_at T1 T2 A1 A2 w n' x') : n = n' ∧ x = x' := by
  obtain ⟨⟨y, a, b⟩, c⟩ := h
  obtain ⟨⟨y', a', b'⟩, c'⟩ := h'
  have := c n' x' y' a' b'
  have := c' n x y a b
  unfold o3 at *
  omega
theorem sp_c {w : Bool} {n x : Nat} (h : sp_at T1 T2 A1 A2 w n x) (h' : sp_no T1 T2 A1 A2 w) : False := by
  obtain ⟨⟨y, a, b⟩, c⟩ := h
  exact h' n x y a b
end
