/-! the class's run and settle -/
def ca (s : ql_St) (K : Nat → Nat) (W : Nat → Int32) (J : Nat → Option Nat) (S n : Nat) (B : Nat → Nat) : Prop :=
  S ≤ 300 ∧ n ≤ 16 ∧ s 3 0 = ii S ∧ s 6 0 = ii n ∧ (∀ x, x < S → s 0 x = ii (K x) ∧ K x < 6 ∧ s 1 x = W x ∧ s 2 x = ec (J x)) ∧ (∀ p, p ≤ n → s 4 p = ii (B p) ∧ B p ≤ S) ∧
  (∀ x t, x < S → K x ≠ 1 → J x = some t → t ≤ S) ∧ (∀ x, x < S → K x = 1 → ∃ t, J x = some t ∧ 1 ≤ t ∧ t ≤ n)
def rT (K : Nat → Nat) (W : Nat → Int32) (J : Nat → Option Nat) (S : Nat) (B : Nat → Nat) : pw_T := fun p a => rj (cr K W J S a (S + 1) (B p))
section
variable {N S n : Nat} {K : Nat → Nat} {W : Nat → Int32} {J : Nat → Option Nat} {B : Nat → Nat} {s : ql_St}
theorem ec_le {o : Option Nat} (h : ∀ t, o = some t → t ≤ 300) (x : Nat) : (ii 0 ≤ ec o ↔ o ≠ none) := by
  cases o with
  | none =>
    show ii 0 ≤ -ii 9 ↔ _
    rw [ii_le_ni (by omega) (by omega)]; simp
  | some t =>
    have := h t rfl
    show ii 0 ≤ ii t ↔ _
    rw [ii_le (by omega) (by omega)]; simp
theorem c_run10n {a c m : Nat} (h : ca s K W J S n B) (hc : c ≤ S + 1) : f_X6_run_10 N s (m + 1) (ii a) (-ii 9) (ii c) = some (-ii 9) := by
  obtain ⟨hS, hn, h3, h6, hx, hb, ht, hp⟩ := h
  rw [f_X6_run_10, h3]
  by_cases q : ii S < ii c
  · exact sp q rfl
  · exact sn q (sn (fun x => by have := (ii_le_ni (show 9 < 2147483648 by omega) (show 0 < 2147483648 by omega)).mp x; omega) rfl)
theorem c_run10 {a : Nat} (h : ca s K W J S n B) (ha : a < 4) : ∀ d c x m, c + d = S + 1 → d + 1 ≤ m → x ≤ S → f_X6_run_10 N s m (ii a) (ii x) (ii c) = some (ec (rj (cr K W J S a d x))) := by
  have h0 := h
  obtain ⟨hS, hn, h3, h6, hx, hb, ht, hp⟩ := h
  intro d
  induction d with
  | zero =>
    intro c x m hc hm hxS
    obtain ⟨m, rfl⟩ : ∃ j, m = j + 1 := ⟨m - 1, by omega⟩
    rw [f_X6_run_10, h3]
    exact sp (lt_y c (by omega) (by omega)) rfl
  | succ d ih =>
    intro c x m hc hm hxS
    obtain ⟨m, rfl⟩ : ∃ j, m = j + 1 := ⟨m - 1, by omega⟩
    rw [f_X6_run_10, h3]
    refine sn (lt_n c (by omega) (by omega)) (sp (zk (by omega)) ?_)
    by_cases e : x = S
    · subst e
      rw [cr_end (Nat.le_refl _)]
      exact sn (lt_n x (by omega) (by omega)) rfl
    · have hx' : x < S := by omega
      obtain ⟨e0, eK, e1, e2⟩ := hx x hx'
      unfold f_X6_run_78
      rw [ii_nat (by omega), e0, e1, e2, lk_1, ii_add, ii_add]
      refine sp (lt_y S hx' (by omega)) (sp (ii_ib (by omega) (by omega)) ?_)
      have ek : ii (K x) = ii 1 ↔ K x = 1 := ii_eq (by omega) (by omega)
      by_cases k : K x = 1
      · rw [cr_act hx' k]
        exact sp (ek.mpr k) (sp (ii_ib (by omega) (by omega)) rfl)
      · refine sn (fun y => k (ek.mp y)) (sp (ii_ib (by omega) (by omega)) (sb (c_holds (by omega)) ?_))
        by_cases b : bt (W x) a = true
        · rw [if_pos b, cr_on hx' k b]
          exact sn n10 (ih (c + 1) (x + 1) m (by omega) (by omega) (by omega))
        · rw [if_neg b]
          refine sp rfl (sp (ii_ib (by omega) (by omega)) ?_)
          cases ej : J x with
          | none =>
            rw [cr_no hx' k b ej]
            obtain ⟨m, rfl⟩ : ∃ j, m = j + 1 := ⟨m - 1, by omega⟩
            exact c_run10n h0 (by omega)
          | some t =>
            rw [cr_to hx' k b ej]
            exact ih (c + 1) t m (by omega) (by omega) (ht x t hx' k ej)
theorem c_run {a p : Nat} (hN : 1000 ≤ N) (h : ca s K W J S n B) (ha : a < 4) (hp : p ≤ n) : f_X6_run N s (ii p) (ii a) = some (ec (rT K W J S B p a)) := by
  have hS := h.1
  have hn := h.2.1
  obtain ⟨e4, hB⟩ := h.2.2.2.2.2.1 p hp
  unfold f_X6_run f_X6_run_0
  rw [ii_nat (by omega), e4]
  exact sp (ii_ib (by omega) (by omega)) (c_run10 h ha (S + 1) 0 (B p) N (by omega) (by omega) hB)
theorem cr_v {a : Nat} (hp : ∀ x, x < S → K x = 1 → ∃ t, J x = some t ∧ 1 ≤ t ∧ t ≤ n) : ∀ f x v, cr K W J S a f x = some (some v) → v ≤ n
  | 0, _, _, h => by cases h
  | f + 1, x, v, h => by
    rw [cr] at h
    by_cases h0 : S ≤ x
    · rw [if_pos h0] at h
      injection h with h; injection h with h; omega
    · rw [if_neg h0] at h
      by_cases h1 : K x = 1
      · rw [if_pos h1] at h
        obtain ⟨t, e, _, ht⟩ := hp x (by omega) h1
        rw [e] at h
        injection h with h; injection h with h; omega
      · rw [if_neg h1] at h
        by_cases b : bt (W x) a = true
        · rw [if_pos b] at h; exact cr_v hp f _ v h
        · rw [if_neg b] at h
          cases e : J x with
          | none => rw [e] at h; injection h with h; cases h
          | some t => rw [e] at h; exact cr_v hp f _ v h
theorem rT_g (h : ca s K W J S n B) : pw_g n (rT K W J S B) := fun p a v hp ha e => by
  unfold rT at e
  cases q : cr K W J S a (S + 1) (B p) with
  | none => rw [q] at e; cases e
  | some r =>
    rw [q] at e
    have e : r = some v := e
    rw [e] at q
    exact cr_v h.2.2.2.2.2.2.2 _ _ v q
theorem ca_7 (h : ca s K W J S n B) (F : Nat → Int32) : ca (ql_up s 7 F) K W J S n B := by
  unfold ca at *
  rw [up_ne (show (3 : Nat) ≠ 7 by decide), up_ne (show (6 : Nat) ≠ 7 by decide), up_ne (show (0 : Nat) ≠ 7 by decide), up_ne (show (1 : Nat) ≠ 7 by decide), up_ne (show (2 : Nat) ≠ 7 by decide), up_ne (show (4 : Nat) ≠ 7 by decide)]
  exact h
/-- the table as far as it is laid -/
def tl (F : Nat → Int32) (T : pw_T) (k : Nat) : Prop := ∀ q a, a < 4 → q * 4 + a < k → F (q * 4 + a) = ec (T q a)
theorem tl_s {F : Nat → Int32} {T : pw_T} {p a : Nat} (ha : a < 4) (h : tl F T (p * 4 + a)) : tl (upd F (p * 4 + a) (ec (T p a))) T (p * 4 + a + 1) := fun q b hb hk => by
  by_cases e : q * 4 + b = p * 4 + a
  · obtain rfl : q = p := by omega
    obtain rfl : b = a := by omega
    rw [ud_same]
  · rw [ud_ne e]; exact h q b hb (by omega)
theorem c_st12 {p : Nat} {F : Nat → Int32} {k2 : ql_St → Int32 → Option ql_St} (hN : 1000 ≤ N) (h : ca s K W J S n B) (hp : p ≤ n) (hF : tl F (rT K W J S B) (p * 4)) : ∃ F', tl F' (rT K W J S B) ((p + 1) * 4) ∧ f_X6_settle_12 N k2 N (ql_up s 7 F) (ii p) 0 = k2 (ql_up s 7 F') (ii (p + 1)) := by
  have hn := h.2.1
  have st : ∀ a m F, a < 4 → tl F (rT K W J S B) (p * 4 + a) → ∃ F', tl F' (rT K W J S B) (p * 4 + a + 1) ∧ f_X6_settle_12 N k2 (m + 1) (ql_up s 7 F) (ii p) (ii a) = f_X6_settle_12 N k2 m (ql_up s 7 F') (ii p) (ii (a + 1)) := fun a m F ha hF => by
    refine ⟨_, tl_s ha hF, ?_⟩
    rw [f_X6_settle_12]
    have enat : (ii (p * 4 + a)).toNatClampNeg = p * 4 + a := ii_nat (by omega)
    simp only [lk_4, lk_1, ii_mul, ii_add, enat, up_same, up_up]
    exact sn (le_n (a := 4) a (by omega) (by omega)) (sb (c_run hN (ca_7 h F) ha hp) (sp (ii_ib (by omega) (by omega)) rfl))
  obtain ⟨j, hj⟩ : ∃ j, N = j + 5 := ⟨N - 5, by omega⟩
  obtain ⟨F1, a1, b1⟩ := st 0 (j + 4) F (by omega) hF
  obtain ⟨F2, a2, b2⟩ := st 1 (j + 3) F1 (by omega) a1
  obtain ⟨F3, a3, b3⟩ := st 2 (j + 2) F2 (by omega) a2
  obtain ⟨F4, a4, b4⟩ := st 3 (j + 1) F3 (by omega) a3
  refine ⟨F4, by rw [show (p + 1) * 4 = p * 4 + 3 + 1 by omega]; exact a4, ?_⟩
  have en : f_X6_settle_12 N k2 N (ql_up s 7 F) (ii p) 0 = f_X6_settle_12 N k2 (j + 5) (ql_up s 7 F) (ii p) (ii 0) := by rw [← hj]; rfl
  rw [en, b1, b2, b3, b4, f_X6_settle_12, lk_1, ii_add]
  exact sp (le_y (a := 4) 4 (by omega) (by omega)) rfl
def se (s : ql_St) (F L : Nat → Int32) (R : Int32) : ql_St := ql_up (ql_up (ql_up s 7 F) 8 L) 9 (fun _ => R)
theorem c_st2 (hN : 1000 ≤ N) (h : ca s K W J S n B) : ∀ j p m F, p + j = n + 1 → j + 1 ≤ m → tl F (rT K W J S B) (p * 4) →
    ∃ F' L R, f_X6_settle_2 N m (ql_up s 7 F) (ii p) = some (se s F' L R) ∧ c_tab (se s F' L R) n (rT K W J S B) ∧ (∀ p j, p ≤ n → (bt (L p) j = true ↔ pD n (rT K W J S B) j p)) ∧ ∀ j, bt R j = true ↔ qD n (rT K W J S B) j := by
  have hn := h.2.1
  have g := rT_g h
  have h6 : s 6 0 = ii n := h.2.2.2.1
  intro j
  induction j with
  | zero =>
    intro p m F hp hm hF
    obtain ⟨m, rfl⟩ : ∃ j, m = j + 1 := ⟨m - 1, by omega⟩
    obtain rfl : p = n + 1 := by omega
    have hT : ∀ p a, p ≤ n → a < 4 → F (p * 4 + a) = ec (rT K W J S B p a) := fun p a hp ha => hF p a ha (by omega)
    have g1 := c_gatherLasts (N := N) (s := ql_up s 7 F) (n := n) (T := rT K W J S B) h6 ⟨hT, h6⟩ g hn hN
    have g2 := c_gatherReached (N := N) (s := ql_up (ql_up s 7 F) 8 (li (rT K W J S B) n (n + 1) (zr (n + 1) (ql_up s 7 F 8)))) (n := n) (T := rT K W J S B) h6 ⟨hT, h6⟩ g hn hN
    refine ⟨F, _, _, ?_, ⟨hT, h6⟩, fun p j hp => li_bits (L := zr (n + 1) (ql_up s 7 F 8)) g (fun p hp => zr_in (by omega)) (Nat.le_refl _) hp, fun j => ri_bits g (by omega) (Nat.le_refl _) j⟩
    rw [f_X6_settle_2]
    exact sp (show s 6 0 < ii (n + 1) by rw [h6]; exact lt_y (n + 1) (by omega) (by omega)) (sb g1 (sb g2 rfl))
  | succ j ih =>
    intro p m F hp hm hF
    obtain ⟨m, rfl⟩ : ∃ j, m = j + 1 := ⟨m - 1, by omega⟩
    obtain ⟨F', a1, a2⟩ := c_st12 (N := N) (k2 := f_X6_settle_2 N m) hN h (show p ≤ n by omega) hF
    obtain ⟨F2, L, R, b1, b2⟩ := ih (p + 1) m F' (by omega) (by omega) a1
    refine ⟨F2, L, R, ?_, b2⟩
    rw [f_X6_settle_2, a2, b1]
    exact sn (show ¬ s 6 0 < ii p by rw [h6]; exact lt_n p (by omega) (by omega)) rfl
theorem c_settle (hN : 1000 ≤ N) (h : ca s K W J S n B) : ∃ F L R, f_X6_settle N s = some (se s F L R) ∧ c_tab (se s F L R) n (rT K W J S B) ∧ (∀ p j, p ≤ n → (bt (L p) j = true ↔ pD n (rT K W J S B) j p)) ∧ ∀ j, bt R j = true ↔ qD n (rT K W J S B) j := by
  unfold f_X6_settle f_X6_settle_0
  have := c_st2 (N := N) hN h (n + 1) 0 N (s 7) (by omega) (by have := h.2.1; omega) (fun q a _ hk => by omega)
  rw [up_self] at this
  exact this
end
