/-! a set that grows at each step, and is still once it stands still, is still after as many steps as it has places -/
noncomputable def ct (S : Nat → Prop) : Nat → Nat
  | 0 => 0
  | k + 1 => ct S k + @ite Nat (S k) (Classical.propDecidable _) 1 0
theorem ct_s {S : Nat → Prop} {k : Nat} (h : S k) : ct S (k + 1) = ct S k + 1 := by
  show ct S k + @ite Nat (S k) (Classical.propDecidable _) 1 0 = _
  rw [if_pos h]
theorem ct_n {S : Nat → Prop} {k : Nat} (h : ¬ S k) : ct S (k + 1) = ct S k := by
  show ct S k + @ite Nat (S k) (Classical.propDecidable _) 1 0 = _
  rw [if_neg h]; rfl
theorem ct_le (S : Nat → Prop) : ∀ k, ct S k ≤ k
  | 0 => Nat.le_refl 0
  | k + 1 => by
    have := ct_le S k
    by_cases h : S k
    · rw [ct_s h]; omega
    · rw [ct_n h]; omega
theorem ct_mono {S S' : Nat → Prop} : ∀ k, (∀ p, p < k → S p → S' p) → ct S k ≤ ct S' k
  | 0, _ => Nat.le_refl 0
  | k + 1, h => by
    have i := ct_mono k (fun p hp => h p (by omega))
    by_cases h1 : S k
    · rw [ct_s h1, ct_s (h k (by omega) h1)]; omega
    · rw [ct_n h1]
      by_cases h2 : S' k
      · rw [ct_s h2]; omega
      · rw [ct_n h2]; exact i
theorem ct_eq {S S' : Nat → Prop} : ∀ k, (∀ p, p < k → S p → S' p) → ct S' k ≤ ct S k → ∀ p, p < k → S' p → S p
  | 0, _, _, p, hp, _ => absurd hp (Nat.not_lt_zero p)
  | k + 1, h, hc, p, hp, hs => by
    have i := ct_mono k (fun p hp => h p (by omega))
    by_cases h1 : S k
    · rw [ct_s h1, ct_s (h k (by omega) h1)] at hc
      by_cases e : p = k
      · subst e; exact h1
      · exact ct_eq k (fun p hp => h p (by omega)) (by omega) p (by omega) hs
    · by_cases h2 : S' k
      · rw [ct_n h1, ct_s h2] at hc; omega
      · rw [ct_n h1, ct_n h2] at hc
        by_cases e : p = k
        · subst e; exact absurd hs h2
        · exact ct_eq k (fun p hp => h p (by omega)) hc p (by omega) hs
theorem ct_pos {S : Nat → Prop} {p : Nat} : ∀ k, p < k → S p → 1 ≤ ct S k
  | 0, h, _ => absurd h (Nat.not_lt_zero p)
  | k + 1, h, hs => by
    by_cases e : p = k
    · subst e; rw [ct_s hs]; omega
    · have := ct_pos (S := S) k (by omega) hs
      by_cases h1 : S k
      · rw [ct_s h1]; omega
      · rw [ct_n h1]; exact this
theorem ct_no {S : Nat → Prop} {k : Nat} (h : ct S k = 0) {p : Nat} (hp : p < k) : ¬ S p := fun q => by
  have := ct_pos k hp q; omega
def st_at (S : Nat → Nat → Prop) (m k : Nat) : Prop := ∀ p, p < m → S (k + 1) p → S k p
theorem st_on {S : Nat → Nat → Prop} {m : Nat} (hm : ∀ k p, p < m → S k p → S (k + 1) p) (hs : ∀ k, st_at S m k → st_at S m (k + 1)) {j : Nat} (h : st_at S m j) : ∀ d p, p < m → S (j + d) p → S j p := by
  have all : ∀ d, st_at S m (j + d) := fun d => by
    induction d with
    | zero => exact h
    | succ d ih => exact hs _ ih
  intro d
  induction d with
  | zero => exact fun p _ q => q
  | succ d ih => exact fun p hp q => ih p hp (all d p hp q)
theorem st_up {S : Nat → Nat → Prop} {m : Nat} (hm : ∀ k p, p < m → S k p → S (k + 1) p) {k : Nat} : ∀ d p, p < m → S k p → S (k + d) p := by
  intro d
  induction d with
  | zero => exact fun p _ q => q
  | succ d ih => exact fun p hp q => hm _ p hp (ih p hp q)
theorem st_all {S : Nat → Nat → Prop} {n : Nat} (hm : ∀ k p, p < n + 1 → S k p → S (k + 1) p) (hs : ∀ k, st_at S (n + 1) k → st_at S (n + 1) (k + 1))
    (h0 : 1 ≤ ct (S 0) (n + 1) ∨ st_at S (n + 1) 0) : ∀ k p, p < n + 1 → S k p → S n p := by
  have ex : ∃ j, j ≤ n ∧ st_at S (n + 1) j := by
    rcases h0 with h0 | h0
    · refine Classical.byContradiction fun q => ?_
      have grow : ∀ j, j ≤ n + 1 → j + 1 ≤ ct (S j) (n + 1) := by
        intro j
        induction j with
        | zero => exact fun _ => h0
        | succ j ih =>
          intro hj
          have ih := ih (by omega)
          have mono := ct_mono (S := S j) (S' := S (j + 1)) (n + 1) (fun p hp => hm j p hp)
          refine Nat.lt_of_not_le fun hle => q ⟨j, by omega, fun p hp => ct_eq (n + 1) (fun p hp => hm j p hp) (by omega) p hp⟩
      have := grow (n + 1) (Nat.le_refl _)
      have := ct_le (S (n + 1)) (n + 1)
      omega
    · exact ⟨0, Nat.zero_le _, h0⟩
  obtain ⟨j, hj, hst⟩ := ex
  intro k p hp q
  have q1 : S (k + j) p := st_up hm j p hp q
  have q2 : S j p := st_on hm hs hst k p hp (by rw [Nat.add_comm]; exact q1)
  have := st_up hm (n - j) p hp q2
  rwa [show j + (n - j) = n by omega] at this
