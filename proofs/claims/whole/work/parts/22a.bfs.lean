/-! a search over rows: nodes are numbers below M, each has at most twelve ways on, the rows are told by how long and by number -/
def o2 (n x n' x' : Nat) : Prop := n < n' ∨ (n = n' ∧ x < x')
def o3 (n x n' x' : Nat) : Prop := n < n' ∨ (n = n' ∧ x ≤ x')
theorem ct_tr : ∀ m, ct (fun _ => True) m = m
  | 0 => rfl
  | m + 1 => by rw [ct_s trivial, ct_tr m]
theorem ct_room {S : Nat → Prop} {m y : Nat} (hy : y < m) (h : ¬ S y) : ct S m < m := by
  refine Nat.lt_of_not_le fun q => h (ct_eq (S := S) (S' := fun _ => True) m (fun _ _ _ => trivial) (by rw [ct_tr]; exact q) y hy trivial)
theorem ct_same {S S' : Nat → Prop} {m : Nat} (h : ∀ p, p < m → (S p ↔ S' p)) : ct S m = ct S' m :=
  Nat.le_antisymm (ct_mono m fun p hp => (h p hp).mp) (ct_mono m fun p hp => (h p hp).mpr)
theorem ct_ins {S S' : Nat → Prop} {y : Nat} (h : ¬ S y) (hS : ∀ p, S' p ↔ S p ∨ p = y) : ∀ m, y < m → ct S' m = ct S m + 1
  | 0, hy => absurd hy (Nat.not_lt_zero y)
  | m + 1, hy => by
    by_cases e : y = m
    · subst e
      rw [ct_s ((hS y).mpr (Or.inr rfl)), ct_n h, ct_same (S := S') (S' := S) (fun p hp => by
        rw [hS]
        exact ⟨fun q => by rcases q with q | q; exact q; omega, Or.inl⟩)]
    · have ih := ct_ins h hS m (by omega)
      by_cases q : S m
      · rw [ct_s q, ct_s ((hS m).mpr (Or.inl q)), ih]
      · rw [ct_n q, ct_n (fun x => by rcases (hS m).mp x with x | x; exact q x; exact e x.symm), ih]
section
variable (B : Nat) (ini : Nat → Option Nat) (st : Nat → Nat → Option Nat)
/-- where the row of n acts with the number x leads -/
def ta : Nat → Nat → Option Nat
  | 0, x => if x < B then ini x else none
  | n + 1, x => (ta n (x / 12)).bind fun y => st y (x % 12)
def bm (q : Nat → Nat) (c y : Nat) : Prop := ∃ j, j < c ∧ q j = y
/-- the search stands at its k-th node, d of that node's ways are taken -/
def bi (M : Nat) (q lv nm : Nat → Nat) (c k d : Nat) : Prop :=
  (∀ j, j < c → ta B ini st (lv j) (nm j) = some (q j) ∧ q j < M) ∧
  (∀ i j, i < j → j < c → o2 (lv i) (nm i) (lv j) (nm j)) ∧
  (∀ x y, x < B → ini x = some y → ∃ j, j < c ∧ q j = y ∧ o3 (lv j) (nm j) 0 x) ∧
  (∀ j e y, j < c → (j < k ∨ (j = k ∧ e < d)) → e < 12 → st (q j) e = some y → ∃ i, i < c ∧ q i = y ∧ o3 (lv i) (nm i) (lv j + 1) (12 * nm j + e)) ∧
  c = ct (bm q c) M ∧ k ≤ c ∧ (∀ j, j < c → k < c → o2 (lv j) (nm j) (lv k + 1) (12 * nm k + d))
variable {B ini st}
theorem ta_s {n x : Nat} {y : Nat} (h : ta B ini st (n + 1) x = some y) : ∃ y', ta B ini st n (x / 12) = some y' ∧ st y' (x % 12) = some y := by
  have h : (ta B ini st n (x / 12)).bind (fun y => st y (x % 12)) = some y := h
  cases e : ta B ini st n (x / 12) with
  | none => rw [e] at h; cases h
  | some y' => rw [e] at h; exact ⟨y', rfl, h⟩
theorem bi_ge {M : Nat} {q lv nm : Nat → Nat} {c k d : Nat} (h : bi B ini st M q lv nm c k d) {i j n x : Nat} (hj : j < c) (hi : i < c) (h1 : o3 (lv j) (nm j) n x) (h2 : o2 n x (lv i) (nm i)) : j < i := by
  refine Nat.lt_of_not_le fun hle => ?_
  have : o3 (lv i) (nm i) (lv j) (nm j) := by
    rcases Nat.lt_or_eq_of_le hle with q | q
    · rcases h.2.1 i j q hj with o | ⟨o, o'⟩
      · exact Or.inl o
      · exact Or.inr ⟨o, by omega⟩
    · subst q; exact Or.inr ⟨rfl, Nat.le_refl _⟩
  unfold o2 o3 at *
  omega
/-- whatever stands ahead of the k-th node's row has its node ahead of k -/
theorem bi_ahead {M : Nat} {q lv nm : Nat → Nat} {c k : Nat} (h : bi B ini st M q lv nm c k 0) (hk : k < c) : ∀ n x y, ta B ini st n x = some y → o2 n x (lv k) (nm k) → ∃ j, j < k ∧ q j = y ∧ o3 (lv j) (nm j) n x := by
  intro n
  induction n with
  | zero =>
    intro x y hy ho
    have hy : (if x < B then ini x else none) = some y := hy
    by_cases hx : x < B
    · rw [if_pos hx] at hy
      obtain ⟨j, hj, e, o⟩ := h.2.2.1 x y hx hy
      exact ⟨j, bi_ge h hj hk o ho, e, o⟩
    · rw [if_neg hx] at hy; cases hy
  | succ n ih =>
    intro x y hy ho
    obtain ⟨y', h1, h2⟩ := ta_s hy
    obtain ⟨j, hj, e, o⟩ := ih (x / 12) y' h1 (by unfold o2 at *; omega)
    subst e
    obtain ⟨i, hi, e, o'⟩ := h.2.2.2.1 j (x % 12) y (by omega) (Or.inl hj) (by omega) h2
    have o'' : o3 (lv i) (nm i) (n + 1) x := by
      have := Nat.div_add_mod x 12
      unfold o3 at *; omega
    exact ⟨i, bi_ge h hi hk o'' ho, e, o''⟩
theorem bi_end {M : Nat} {q lv nm : Nat → Nat} {c : Nat} (h : bi B ini st M q lv nm c c 0) : ∀ n x y, ta B ini st n x = some y → ∃ j, j < c ∧ q j = y := by
  intro n
  induction n with
  | zero =>
    intro x y hy
    have hy : (if x < B then ini x else none) = some y := hy
    by_cases hx : x < B
    · rw [if_pos hx] at hy
      obtain ⟨j, hj, e, _⟩ := h.2.2.1 x y hx hy
      exact ⟨j, hj, e⟩
    · rw [if_neg hx] at hy; cases hy
  | succ n ih =>
    intro x y hy
    obtain ⟨y', h1, h2⟩ := ta_s hy
    obtain ⟨j, hj, e⟩ := ih (x / 12) y' h1
    subst e
    obtain ⟨i, hi, e, _⟩ := h.2.2.2.1 j (x % 12) y hj (Or.inl hj) (by omega) h2
    exact ⟨i, hi, e⟩
/-- a way that leads nowhere, or to a node that is known -/
theorem bi_skip {M : Nat} {q lv nm : Nat → Nat} {c k d : Nat} (h : bi B ini st M q lv nm c k d) (hk : k < c) (hd : ∀ y, st (q k) d = some y → bm q c y) : bi B ini st M q lv nm c k (d + 1) := by
  refine ⟨h.1, h.2.1, h.2.2.1, ?_, h.2.2.2.2.1, h.2.2.2.2.2.1, ?_⟩
  · intro j e y hj hw he hy
    by_cases q1 : j < k ∨ (j = k ∧ e < d)
    · exact h.2.2.2.1 j e y hj q1 he hy
    · have e1 : j = k := by omega
      have e2 : e = d := by omega
      subst e1; subst e2
      obtain ⟨i, hi, e⟩ := hd y hy
      refine ⟨i, hi, e, ?_⟩
      have := h.2.2.2.2.2.2 i hi hj
      unfold o2 at this; unfold o3; omega
  · intro j hj _
    have := h.2.2.2.2.2.2 j hj hk
    unfold o2 at *; omega
theorem bi_push {M : Nat} {q lv nm : Nat → Nat} {c k d y : Nat} (h : bi B ini st M q lv nm c k d) (hk : k < c) (hd12 : d < 12) (hd : st (q k) d = some y) (hy : y < M) (hn : ¬ bm q c y)
    {q' lv' nm' : Nat → Nat} (e1 : ∀ j, j < c → q' j = q j ∧ lv' j = lv j ∧ nm' j = nm j) (e2 : q' c = y ∧ lv' c = lv k + 1 ∧ nm' c = 12 * nm k + d) : bi B ini st M q' lv' nm' (c + 1) k (d + 1) := by
  have ek := e1 k hk
  have hm : ∀ p, bm q' (c + 1) p ↔ bm q c p ∨ p = y := fun p => by
    constructor
    · rintro ⟨j, hj, e⟩
      by_cases q1 : j = c
      · subst q1; exact Or.inr (by rw [← e, e2.1])
      · exact Or.inl ⟨j, by omega, by rw [← (e1 j (by omega)).1]; exact e⟩
    · rintro (⟨j, hj, e⟩ | e)
      · exact ⟨j, by omega, by rw [(e1 j hj).1]; exact e⟩
      · exact ⟨c, by omega, by rw [e2.1, e]⟩
  have ta' : ta B ini st (lv k + 1) (12 * nm k + d) = some y := by
    show (ta B ini st (lv k) ((12 * nm k + d) / 12)).bind (fun y => st y ((12 * nm k + d) % 12)) = some y
    rw [show (12 * nm k + d) / 12 = nm k by omega, show (12 * nm k + d) % 12 = d by omega, (h.1 k hk).1]
    exact hd
  refine ⟨?_, ?_, ?_, ?_, ?_, ?_, ?_⟩
  · intro j hj
    by_cases q1 : j = c
    · subst q1; rw [e2.1, e2.2.1, e2.2.2]; exact ⟨ta', hy⟩
    · have := e1 j (by omega)
      rw [this.1, this.2.1, this.2.2]; exact h.1 j (by omega)
  · intro i j hij hj
    by_cases q1 : j = c
    · subst q1
      have a := e1 i hij
      rw [e2.2.1, e2.2.2, a.2.1, a.2.2]
      exact h.2.2.2.2.2.2 i hij hk
    · have a := e1 i (by omega)
      have b := e1 j (by omega)
      rw [a.2.1, a.2.2, b.2.1, b.2.2]
      exact h.2.1 i j hij (by omega)
  · intro x w hx hw
    obtain ⟨j, hj, e, o⟩ := h.2.2.1 x w hx hw
    have a := e1 j hj
    exact ⟨j, by omega, by rw [a.1]; exact e, by rw [a.2.1, a.2.2]; exact o⟩
  · intro j e w hj hw he hst
    have hjc : j < c := by omega
    have a := e1 j hjc
    rw [a.1] at hst
    rw [a.2.1, a.2.2]
    by_cases q1 : j < k ∨ (j = k ∧ e < d)
    · obtain ⟨i, hi, ei, o⟩ := h.2.2.2.1 j e w hjc q1 he hst
      have b := e1 i hi
      exact ⟨i, by omega, by rw [b.1]; exact ei, by rw [b.2.1, b.2.2]; exact o⟩
    · have e3 : j = k := by omega
      have e4 : e = d := by omega
      subst e3; subst e4
      refine ⟨c, by omega, ?_, ?_⟩
      · rw [e2.1]; rw [hd] at hst; exact Option.some.inj hst
      · rw [e2.2.1, e2.2.2]; exact Or.inr ⟨rfl, Nat.le_refl _⟩
  · rw [ct_ins hn hm M hy, ← h.2.2.2.2.1]
  · omega
  · intro j hj _
    rw [ek.2.1, ek.2.2]
    by_cases q1 : j = c
    · subst q1; rw [e2.2.1, e2.2.2]; exact Or.inr ⟨rfl, by omega⟩
    · have b := e1 j (by omega)
      rw [b.2.1, b.2.2]
      have := h.2.2.2.2.2.2 j (by omega) hk
      unfold o2 at *; omega
theorem bi_next {M : Nat} {q lv nm : Nat → Nat} {c k : Nat} (h : bi B ini st M q lv nm c k 12) (hk : k < c) : bi B ini st M q lv nm c (k + 1) 0 := by
  refine ⟨h.1, h.2.1, h.2.2.1, ?_, h.2.2.2.2.1, hk, ?_⟩
  · intro j e y hj hw he hy
    exact h.2.2.2.1 j e y hj (by omega) he hy
  · intro j hj hk'
    have a := h.2.2.2.2.2.2 j hj hk
    have b := h.2.1 k (k + 1) (by omega) hk'
    unfold o2 at *; omega
end
