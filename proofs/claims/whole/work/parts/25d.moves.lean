/-! the reference's moves: region 4 to region i -/
/-- f' is f with the w places from w·i on as those from w·4 on -/
def mc (f f' : Nat → Int32) (w i k : Nat) : Prop := (∀ j, j < k → f' (w * i + j) = f (w * 4 + j)) ∧ ∀ x, (x < w * i ∨ w * i + w ≤ x) → f' x = f x
theorem mc_0 (f : Nat → Int32) (w i : Nat) : mc f f w i 0 := ⟨fun j hj => by omega, fun _ _ => rfl⟩
theorem mc_s {f f' : Nat → Int32} {w i k : Nat} (hi : i < 4) (hk : k < w) (h : mc f f' w i k) : mc f (upd f' (w * i + k) (f' (w * 4 + k))) w i (k + 1) := by
  have far : w * i + w ≤ w * 4 := by
    have := Nat.mul_le_mul_left w (show i + 1 ≤ 4 by omega)
    rw [Nat.mul_add, Nat.mul_one] at this; exact this
  refine ⟨fun j hj => ?_, fun x hx => ?_⟩
  · by_cases e : j = k
    · subst e; rw [ud_same]; exact h.2 _ (by omega)
    · rw [ud_ne (by omega)]; exact h.1 j (by omega)
  · rw [ud_ne (by omega)]; exact h.2 x hx
section
variable {N i : Nat}
/-- three rows, two rows at once -/
theorem m_mv2 (hi : i < 4) (z0 : ql_Z) : ∀ j k m (z : ql_Z), k + j = 400 → j + 1 ≤ m → (∀ s, s ≠ 3 → s ≠ 4 → s ≠ 5 → z.1 s = z0.1 s) → z.2 = z0.2 → mc (z0.1 3) (z.1 3) 400 i k → mc (z0.1 4) (z.1 4) 400 i k → mc (z0.1 5) (z.1 5) 400 i k →
    ∃ z', f_X11_moves_2 N m z (ii i) (ii k) = f_X11_moves_83 N N z' (ii i) (ii 0) ∧ (∀ s, s ≠ 3 → s ≠ 4 → s ≠ 5 → z'.1 s = z0.1 s) ∧ z'.2 = z0.2 ∧ mc (z0.1 3) (z'.1 3) 400 i 400 ∧ mc (z0.1 4) (z'.1 4) 400 i 400 ∧ mc (z0.1 5) (z'.1 5) 400 i 400 := by
  intro j
  induction j with
  | zero =>
    intro k m z hk hm hz h2 h3 h4 h5
    obtain ⟨m, rfl⟩ : ∃ j, m = j + 1 := ⟨m - 1, by omega⟩
    obtain rfl : k = 400 := by omega
    refine ⟨z, ?_, hz, h2, h3, h4, h5⟩
    rw [f_X11_moves_2]
    exact sp (le_y (a := 400) 400 (by omega) (by omega)) rfl
  | succ j ih =>
    intro k m z hk hm hz h2 h3 h4 h5
    obtain ⟨m, rfl⟩ : ∃ j, m = j + 1 := ⟨m - 1, by omega⟩
    obtain ⟨z', e, r⟩ := ih (k + 1) m (ql_up (ql_up (ql_up z.1 3 (upd (z.1 3) (400 * i + k) (z.1 3 (400 * 4 + k)))) 4 (upd (z.1 4) (400 * i + k) (z.1 4 (400 * 4 + k)))) 5 (upd (z.1 5) (400 * i + k) (z.1 5 (400 * 4 + k))), z.2) (by omega) (by omega) (fun s a b c => by
      show ql_up (ql_up (ql_up z.1 3 (upd (z.1 3) (400 * i + k) (z.1 3 (400 * 4 + k)))) 4 (upd (z.1 4) (400 * i + k) (z.1 4 (400 * 4 + k)))) 5 (upd (z.1 5) (400 * i + k) (z.1 5 (400 * 4 + k))) s = _
      rw [up_ne c, up_ne b, up_ne a]; exact hz s a b c) h2 (mc_s hi (by omega) h3) (mc_s hi (by omega) h4) (mc_s hi (by omega) h5)
    refine ⟨z', ?_, r⟩
    rw [f_X11_moves_2, ← e]
    have i1 : (1600 : Int32) + ii k = ii (1600 + k) := by rw [lk_1600, ii_add]
    have i2 : (400 : Int32) * ii i + ii k = ii (400 * i + k) := by rw [lk_400, ii_mul, ii_add]
    rw [i1, i2, ii_nat (by omega), ii_nat (by omega), lk_1, ii_add]
    have b1 : ql_ib (ii (1600 + k)) 2000 = true := ii_ib (by omega) (by omega)
    have b2 : ql_ib (ii (400 * i + k)) 2000 = true := ii_ib (by omega) (by omega)
    exact sn (le_n (a := 400) k (by omega) (by omega)) (sp b1 (sp b2 (sp b1 (sp b2 (sp b1 (sp b2 rfl))))))
theorem m_mv83 (hi : i < 4) (z0 : ql_Z) : ∀ j k m (z : ql_Z), k + j = 17 → j + 1 ≤ m → (∀ s, s ≠ 7 → s ≠ 8 → z.1 s = z0.1 s) → z.2 = z0.2 → mc (z0.1 7) (z.1 7) 17 i k → mc (z0.1 8) (z.1 8) 17 i k →
    ∃ z', f_X11_moves_83 N m z (ii i) (ii k) = f_X11_moves_137 N N z' (ii i) (ii 0) ∧ (∀ s, s ≠ 7 → s ≠ 8 → z'.1 s = z0.1 s) ∧ z'.2 = z0.2 ∧ mc (z0.1 7) (z'.1 7) 17 i 17 ∧ mc (z0.1 8) (z'.1 8) 17 i 17 := by
  intro j
  induction j with
  | zero =>
    intro k m z hk hm hz h2 h3 h4
    obtain ⟨m, rfl⟩ : ∃ j, m = j + 1 := ⟨m - 1, by omega⟩
    obtain rfl : k = 17 := by omega
    refine ⟨z, ?_, hz, h2, h3, h4⟩
    rw [f_X11_moves_83]
    exact sp (le_y (a := 17) 17 (by omega) (by omega)) rfl
  | succ j ih =>
    intro k m z hk hm hz h2 h3 h4
    obtain ⟨m, rfl⟩ : ∃ j, m = j + 1 := ⟨m - 1, by omega⟩
    obtain ⟨z', e, r⟩ := ih (k + 1) m (ql_up (ql_up z.1 7 (upd (z.1 7) (17 * i + k) (z.1 7 (17 * 4 + k)))) 8 (upd (z.1 8) (17 * i + k) (z.1 8 (17 * 4 + k))), z.2) (by omega) (by omega) (fun s a b => by
      show ql_up (ql_up z.1 7 (upd (z.1 7) (17 * i + k) (z.1 7 (17 * 4 + k)))) 8 (upd (z.1 8) (17 * i + k) (z.1 8 (17 * 4 + k))) s = _
      rw [up_ne b, up_ne a]; exact hz s a b) h2 (mc_s hi (by omega) h3) (mc_s hi (by omega) h4)
    refine ⟨z', ?_, r⟩
    rw [f_X11_moves_83, ← e]
    have i1 : (68 : Int32) + ii k = ii (68 + k) := by rw [lk_68, ii_add]
    have i2 : (17 : Int32) * ii i + ii k = ii (17 * i + k) := by rw [lk_17, ii_mul, ii_add]
    rw [i1, i2, ii_nat (by omega), ii_nat (by omega), lk_1, ii_add]
    have b1 : ql_ib (ii (68 + k)) 85 = true := ii_ib (by omega) (by omega)
    have b2 : ql_ib (ii (17 * i + k)) 85 = true := ii_ib (by omega) (by omega)
    exact sn (le_n (a := 17) k (by omega) (by omega)) (sp b1 (sp b2 (sp b1 (sp b2 rfl))))
theorem m_mv137 (hi : i < 4) (z0 : ql_Z) : ∀ j k m (z : ql_Z), k + j = 200 → j + 1 ≤ m → (∀ s, s ≠ 10 → s ≠ 11 → z.1 s = z0.1 s) → z.2 = z0.2 → mc (z0.1 10) (z.1 10) 200 i k → mc (z0.1 11) (z.1 11) 200 i k →
    ∃ z', f_X11_moves_137 N m z (ii i) (ii k) = some z' ∧ (∀ s, s ≠ 10 → s ≠ 11 → s ≠ 6 → s ≠ 9 → s ≠ 12 → z'.1 s = z0.1 s) ∧ z'.2 = z0.2 ∧ mc (z0.1 10) (z'.1 10) 200 i 200 ∧ mc (z0.1 11) (z'.1 11) 200 i 200 ∧ z'.1 6 = upd (z0.1 6) i (z0.1 6 4) ∧ z'.1 9 = upd (z0.1 9) i (z0.1 9 4) ∧ z'.1 12 = upd (z0.1 12) i (z0.1 12 4) := by
  intro j
  induction j with
  | zero =>
    intro k m z hk hm hz h2 h3 h4
    obtain ⟨m, rfl⟩ : ∃ j, m = j + 1 := ⟨m - 1, by omega⟩
    obtain rfl : k = 200 := by omega
    refine ⟨(ql_up (ql_up (ql_up z.1 6 (upd (z.1 6) i (z.1 6 4))) 9 (upd (z.1 9) i (z.1 9 4))) 12 (upd (z.1 12) i (z.1 12 4)), z.2), ?_, fun s a b c d e => ?_, h2, h3, h4, ?_, ?_, ?_⟩
    · rw [f_X11_moves_137, ii_nat (by omega)]
      have b2 : ql_ib (ii i) 5 = true := ii_ib (by omega) (by omega)
      exact sp (le_y (a := 200) 200 (by omega) (by omega)) (sp b2 (sp b2 (sp b2 rfl)))
    · show ql_up (ql_up (ql_up z.1 6 (upd (z.1 6) i (z.1 6 4))) 9 (upd (z.1 9) i (z.1 9 4))) 12 (upd (z.1 12) i (z.1 12 4)) s = _
      rw [up_ne e, up_ne d, up_ne c]; exact hz s a b
    · show upd (z.1 6) i (z.1 6 4) = _
      rw [hz 6 (by decide) (by decide)]
    · show upd (z.1 9) i (z.1 9 4) = _
      rw [hz 9 (by decide) (by decide)]
    · show upd (z.1 12) i (z.1 12 4) = _
      rw [hz 12 (by decide) (by decide)]
  | succ j ih =>
    intro k m z hk hm hz h2 h3 h4
    obtain ⟨m, rfl⟩ : ∃ j, m = j + 1 := ⟨m - 1, by omega⟩
    obtain ⟨z', e, r⟩ := ih (k + 1) m (ql_up (ql_up z.1 10 (upd (z.1 10) (200 * i + k) (z.1 10 (200 * 4 + k)))) 11 (upd (z.1 11) (200 * i + k) (z.1 11 (200 * 4 + k))), z.2) (by omega) (by omega) (fun s a b => by
      show ql_up (ql_up z.1 10 (upd (z.1 10) (200 * i + k) (z.1 10 (200 * 4 + k)))) 11 (upd (z.1 11) (200 * i + k) (z.1 11 (200 * 4 + k))) s = _
      rw [up_ne b, up_ne a]; exact hz s a b) h2 (mc_s hi (by omega) h3) (mc_s hi (by omega) h4)
    refine ⟨z', ?_, r⟩
    rw [f_X11_moves_137, ← e]
    have i1 : (800 : Int32) + ii k = ii (800 + k) := by rw [lk_800, ii_add]
    have i2 : (200 : Int32) * ii i + ii k = ii (200 * i + k) := by rw [lk_200, ii_mul, ii_add]
    rw [i1, i2, ii_nat (show 800 + k < 2147483648 by omega), ii_nat (show 200 * i + k < 2147483648 by omega), lk_1, ii_add]
    have b1 : ql_ib (ii (800 + k)) 1000 = true := ii_ib (by omega) (by omega)
    have b2 : ql_ib (ii (200 * i + k)) 1000 = true := ii_ib (by omega) (by omega)
    exact sn (le_n (a := 200) k (by omega) (by omega)) (sp b1 (sp b2 (sp b1 (sp b2 rfl))))
/-- all of moves -/
def mvd (z z' : ql_Z) (i : Nat) : Prop :=
  (∀ s, s < 3 ∨ 12 < s → z'.1 s = z.1 s) ∧ z'.2 = z.2 ∧ mc (z.1 3) (z'.1 3) 400 i 400 ∧ mc (z.1 4) (z'.1 4) 400 i 400 ∧ mc (z.1 5) (z'.1 5) 400 i 400 ∧ mc (z.1 7) (z'.1 7) 17 i 17 ∧ mc (z.1 8) (z'.1 8) 17 i 17 ∧ mc (z.1 10) (z'.1 10) 200 i 200 ∧ mc (z.1 11) (z'.1 11) 200 i 200 ∧
  z'.1 6 = upd (z.1 6) i (z.1 6 4) ∧ z'.1 9 = upd (z.1 9) i (z.1 9 4) ∧ z'.1 12 = upd (z.1 12) i (z.1 12 4)
theorem m_moves {z : ql_Z} (hN : 1000 ≤ N) (hi : i < 4) : ∃ z', f_X11_moves N z (ii i) = some z' ∧ mvd z z' i := by
  unfold f_X11_moves f_X11_moves_0
  obtain ⟨z1, e1, a1, a2, a3, a4, a5⟩ := m_mv2 (N := N) hi z 400 0 N z (by omega) (by omega) (fun _ _ _ _ => rfl) rfl (mc_0 _ _ _) (mc_0 _ _ _) (mc_0 _ _ _)
  obtain ⟨z2, e2, b1, b2, b3, b4⟩ := m_mv83 (N := N) hi z1 17 0 N z1 (by omega) (by omega) (fun _ _ _ => rfl) rfl (mc_0 _ _ _) (mc_0 _ _ _)
  obtain ⟨z3, e3, c1, c2, c3, c4, c5, c6, c7⟩ := m_mv137 (N := N) hi z2 200 0 N z2 (by omega) (by omega) (fun _ _ _ => rfl) rfl (mc_0 _ _ _) (mc_0 _ _ _)
  refine ⟨z3, ?_, ?_⟩
  · rw [lk_0, e1, e2, e3]
  · have f7 : z1.1 7 = z.1 7 := a1 7 (by decide) (by decide) (by decide)
    have f8 : z1.1 8 = z.1 8 := a1 8 (by decide) (by decide) (by decide)
    have f3 : z3.1 3 = z1.1 3 := (c1 3 (by decide) (by decide) (by decide) (by decide) (by decide)).trans (b1 3 (by decide) (by decide))
    have f4 : z3.1 4 = z1.1 4 := (c1 4 (by decide) (by decide) (by decide) (by decide) (by decide)).trans (b1 4 (by decide) (by decide))
    have f5 : z3.1 5 = z1.1 5 := (c1 5 (by decide) (by decide) (by decide) (by decide) (by decide)).trans (b1 5 (by decide) (by decide))
    have g7 : z3.1 7 = z2.1 7 := c1 7 (by decide) (by decide) (by decide) (by decide) (by decide)
    have g8 : z3.1 8 = z2.1 8 := c1 8 (by decide) (by decide) (by decide) (by decide) (by decide)
    have k10 : z2.1 10 = z.1 10 := (b1 10 (by decide) (by decide)).trans (a1 10 (by decide) (by decide) (by decide))
    have k11 : z2.1 11 = z.1 11 := (b1 11 (by decide) (by decide)).trans (a1 11 (by decide) (by decide) (by decide))
    have k6 : z2.1 6 = z.1 6 := (b1 6 (by decide) (by decide)).trans (a1 6 (by decide) (by decide) (by decide))
    have k9 : z2.1 9 = z.1 9 := (b1 9 (by decide) (by decide)).trans (a1 9 (by decide) (by decide) (by decide))
    have k12 : z2.1 12 = z.1 12 := (b1 12 (by decide) (by decide)).trans (a1 12 (by decide) (by decide) (by decide))
    refine ⟨fun s hs => ?_, ?_, ?_, ?_, ?_, ?_, ?_, ?_, ?_, ?_, ?_, ?_⟩
    · rw [c1 s (by omega) (by omega) (by omega) (by omega) (by omega), b1 s (by omega) (by omega), a1 s (by omega) (by omega) (by omega)]
    · rw [c2, b2, a2]
    · rw [f3]; exact a3
    · rw [f4]; exact a4
    · rw [f5]; exact a5
    · rw [g7, ← f7]; exact b3
    · rw [g8, ← f8]; exact b4
    · rw [← k10]; exact c3
    · rw [← k11]; exact c4
    · rw [c5, k6]
    · rw [c6, k9]
    · rw [c7, k12]
end
