/-! ahead, behind, dead, count -/
theorem lb_c {n p a : Nat} {T : pw_T} {L L' : Nat → Int32} (g : pw_g n T) (hp : p ≤ n) (ha : a < 4) (h : ∀ q, q ≤ n → L q = L' q) : lb T L p a = lb T L' p a := by
  unfold lb
  cases e : T p a with
  | none => rfl
  | some v => cases v with
    | zero => rfl
    | succ v => exact h _ (g p a _ hp ha e)
def ah (T : pw_T) (L : Nat → Int32) (x2 x3 : Int32) (a : Nat) : Int32 := if (lb T L 0 a &&& (x2 ^^^ (-ii 1))) = ii 0 then x3 ||| (ii 1 <<< (ii a &&& ii 31)) else x3
def bh (T : pw_T) (L : Nat → Int32) (x2 x3 : Int32) (a : Nat) : Int32 := if bt x2 a = true then x3 ||| lb T L 0 a else x3
section
variable {N n : Nat} {T : pw_T} {P : Nat → ql_St} {v : ql_V} {z : ql_Z}
theorem c_ah {i a m : Nat} {x2 x3 : Int32} (hT : c_tab (P i) n T) (g : pw_g n T) (hn : n ≤ 16) (hi : i < 4) (ha : a < 4) : f_X10_ahead_24 N P v (m + 1) (ii i) x2 x3 (ii a) = f_X10_ahead_24 N P v m (ii i) x2 (ah T (P i 8) x2 x3 a) (ii (a + 1)) := by
  rw [f_X10_ahead_24, ii_nat (show i < 2147483648 by omega), lk_4, lk_0]
  refine sn (by rw [ii_le (by omega) (by omega)]; omega) (sp (ii_ib (by omega) (by omega)) (sb (c_lastsBy hT g hn (Nat.zero_le _) ha) ?_))
  unfold f_X10_ahead_56 ah
  rw [lk_1, lk_31, ii_add]
  by_cases q : (lb T (P i 8) 0 a &&& (x2 ^^^ (-ii 1))) = ii 0
  · rw [if_pos q, if_pos q]
  · rw [if_neg q, if_neg q]
theorem c_bh {i a m : Nat} {x2 x3 : Int32} (hT : c_tab (P i) n T) (g : pw_g n T) (hn : n ≤ 16) (hi : i < 4) (ha : a < 4) : f_X10_behind_24 N P v (m + 1) (ii i) x2 x3 (ii a) = f_X10_behind_24 N P v m (ii i) x2 (bh T (P i 8) x2 x3 a) (ii (a + 1)) := by
  rw [f_X10_behind_24, ii_nat (show i < 2147483648 by omega), lk_4, lk_0]
  refine sn (by rw [ii_le (by omega) (by omega)]; omega) (sb (c_holds (by omega)) ?_)
  unfold f_X10_behind_54 bh
  rw [lk_1, ii_add]
  by_cases q : bt x2 a = true
  · rw [if_pos q, if_pos q]
    exact sn n10 (sp (ii_ib (by omega) (by omega)) (sb (c_lastsBy hT g hn (Nat.zero_le _) ha) rfl))
  · rw [if_neg q, if_neg q]
    exact sp rfl rfl
theorem m_ah {i a m : Nat} {x2 x3 : Int32} (hT : m_tab (z.1 13) i n T) (g : pw_g n T) (hn : n ≤ 16) (hi : i < 4) (ha : a < 4) : f_X11_ahead_26 N (m + 1) z (ii i) x2 x3 (ii a) = f_X11_ahead_26 N m z (ii i) x2 (ah T (z.1 36) x2 x3 a) (ii (a + 1)) := by
  rw [f_X11_ahead_26, lk_4, lk_0]
  refine sn (by rw [ii_le (by omega) (by omega)]; omega) (sb (m_lastOf hT g hi hn (Nat.zero_le _) ha) ?_)
  unfold f_X11_ahead_56 ah
  rw [lk_1, lk_31, ii_add, or_z]
  by_cases q : (lb T (z.1 36) 0 a &&& (x2 ^^^ (-ii 1))) = ii 0
  · rw [if_pos q, if_pos q]
  · rw [if_neg q, if_neg q]
theorem m_bh {i a m : Nat} {x2 x3 : Int32} (hT : m_tab (z.1 13) i n T) (g : pw_g n T) (hn : n ≤ 16) (hi : i < 4) (ha : a < 4) : f_X11_behind_26 N (m + 1) z (ii i) x2 x3 (ii a) = f_X11_behind_26 N m z (ii i) x2 (bh T (z.1 36) x2 x3 a) (ii (a + 1)) := by
  rw [f_X11_behind_26, lk_4, lk_0, lk_31, lk_1]
  refine sn (by rw [ii_le (by omega) (by omega)]; omega) ?_
  unfold f_X11_behind_55 bh
  rw [lk_1, ii_add, or_z]
  by_cases q : bt x2 a = true
  · rw [if_pos ((bt_shr (by omega)).mpr q), if_pos q]
    exact sb (m_lastOf hT g hi hn (Nat.zero_le _) ha) rfl
  · rw [if_neg (fun x => q ((bt_shr (by omega)).mp x)), if_neg q]
theorem c_ah4 {i : Nat} {x2 : Int32} (hN : 1000 ≤ N) (hT : c_tab (P i) n T) (g : pw_g n T) (hn : n ≤ 16) (hi : i < 4) : f_X10_ahead_24 N P v N (ii i) x2 0 0 = some (ah T (P i 8) x2 (ah T (P i 8) x2 (ah T (P i 8) x2 (ah T (P i 8) x2 (ii 0) 0) 1) 2) 3) := by
  obtain ⟨j, hj⟩ : ∃ j, N = j + 5 := ⟨N - 5, by omega⟩
  have e : f_X10_ahead_24 N P v N (ii i) x2 0 0 = f_X10_ahead_24 N P v (j + 5) (ii i) x2 (ii 0) (ii 0) := by rw [← hj]; rfl
  rw [e, c_ah hT g hn hi (by omega), c_ah hT g hn hi (by omega), c_ah hT g hn hi (by omega), c_ah hT g hn hi (by omega), f_X10_ahead_24, lk_4]
  exact sp (by rw [ii_le (by omega) (by omega)]; omega) rfl
theorem c_bh4 {i : Nat} {x2 : Int32} (hN : 1000 ≤ N) (hT : c_tab (P i) n T) (g : pw_g n T) (hn : n ≤ 16) (hi : i < 4) : f_X10_behind_24 N P v N (ii i) x2 0 0 = some (bh T (P i 8) x2 (bh T (P i 8) x2 (bh T (P i 8) x2 (bh T (P i 8) x2 (ii 0) 0) 1) 2) 3) := by
  obtain ⟨j, hj⟩ : ∃ j, N = j + 5 := ⟨N - 5, by omega⟩
  have e : f_X10_behind_24 N P v N (ii i) x2 0 0 = f_X10_behind_24 N P v (j + 5) (ii i) x2 (ii 0) (ii 0) := by rw [← hj]; rfl
  rw [e, c_bh hT g hn hi (by omega), c_bh hT g hn hi (by omega), c_bh hT g hn hi (by omega), c_bh hT g hn hi (by omega), f_X10_behind_24, lk_4]
  exact sp (by rw [ii_le (by omega) (by omega)]; omega) rfl
theorem m_ah4 {i : Nat} {x2 : Int32} (hN : 1000 ≤ N) (hT : m_tab (z.1 13) i n T) (g : pw_g n T) (hn : n ≤ 16) (hi : i < 4) : f_X11_ahead_26 N N z (ii i) x2 0 0 = some (ah T (z.1 36) x2 (ah T (z.1 36) x2 (ah T (z.1 36) x2 (ah T (z.1 36) x2 (ii 0) 0) 1) 2) 3, z) := by
  obtain ⟨j, hj⟩ : ∃ j, N = j + 5 := ⟨N - 5, by omega⟩
  have e : f_X11_ahead_26 N N z (ii i) x2 0 0 = f_X11_ahead_26 N (j + 5) z (ii i) x2 (ii 0) (ii 0) := by rw [← hj]; rfl
  rw [e, m_ah hT g hn hi (by omega), m_ah hT g hn hi (by omega), m_ah hT g hn hi (by omega), m_ah hT g hn hi (by omega), f_X11_ahead_26, lk_4]
  exact sp (by rw [ii_le (by omega) (by omega)]; omega) rfl
theorem m_bh4 {i : Nat} {x2 : Int32} (hN : 1000 ≤ N) (hT : m_tab (z.1 13) i n T) (g : pw_g n T) (hn : n ≤ 16) (hi : i < 4) : f_X11_behind_26 N N z (ii i) x2 0 0 = some (bh T (z.1 36) x2 (bh T (z.1 36) x2 (bh T (z.1 36) x2 (bh T (z.1 36) x2 (ii 0) 0) 1) 2) 3, z) := by
  obtain ⟨j, hj⟩ : ∃ j, N = j + 5 := ⟨N - 5, by omega⟩
  have e : f_X11_behind_26 N N z (ii i) x2 0 0 = f_X11_behind_26 N (j + 5) z (ii i) x2 (ii 0) (ii 0) := by rw [← hj]; rfl
  rw [e, m_bh hT g hn hi (by omega), m_bh hT g hn hi (by omega), m_bh hT g hn hi (by omega), m_bh hT g hn hi (by omega), f_X11_behind_26, lk_4]
  exact sp (by rw [ii_le (by omega) (by omega)]; omega) rfl
theorem is_cases (N : Nat) (x : Int32) : (¬ x < ii 0 ∧ x ≤ ii 15 ∧ f_X11_isSet N x = some (ii 1)) ∨ ((x < ii 0 ∨ (¬ x < ii 0 ∧ ¬ x ≤ ii 15)) ∧ f_X11_isSet N x = some (ii 0)) := by
  unfold f_X11_isSet f_X11_isSet_0
  rw [lo_15]
  rcases m_rng N x 15 (by omega) with ⟨k, hk, rfl, h⟩ | ⟨hx, h⟩
  · exact Or.inl ⟨fun q => by have := (ii_lt (by omega) (by omega)).mp q; omega, (ii_le (by omega) (by omega)).mpr hk, sb h (if_pos bz_1)⟩
  · refine Or.inr ⟨?_, sb h (if_pos bz_0)⟩
    rcases hx with hx | ⟨k, hk, hk', rfl⟩
    · exact Or.inl hx
    · exact Or.inr ⟨fun q => by have := (ii_lt (by omega) (by omega)).mp q; omega, fun q => by have := (ii_le (by omega) (by omega)).mp q; omega⟩
/-- the last atoms are the same numbers on both sides -/
theorem l_same {s : ql_St} {L : Nat → Int32} {r : Nat} (g : pw_g n T) (hb : ∀ p j, p ≤ n → (bt (s 8 p) j = true ↔ pD n T j p)) (hr : n + 1 ≤ r) (h0 : ∀ p, p ≤ n → L p = ii 0) : ∀ q, q ≤ n → s 8 q = li T n r L q := fun q hq => by
  refine bt_ext fun i _ => ?_
  have a := hb q i hq
  have b := li_bits (i := i) g h0 hr hq
  cases e : bt (li T n r L q) i with
  | true => exact a.mpr (b.mp e)
  | false =>
    cases e' : bt (s 8 q) i with
    | false => rfl
    | true => have := b.mpr (a.mp e'); rw [e] at this; cases this
theorem e_ahead (hN : 1000 ≤ N) (R : pga P z.1) (x1 x2 : Int32) : ∃ r z', f_X10_ahead N P v x1 x2 = some r ∧ f_X11_ahead N z x1 x2 = some (r, z') ∧ fr z z' := by
  unfold f_X10_ahead f_X10_ahead_0 f_X11_ahead f_X11_ahead_0
  rcases ip_cases N x1 with ⟨i, hi, rfl, c1, m1⟩ | ⟨c1, m1⟩
  · rcases is_cases N x2 with ⟨q1, q2, q3⟩ | ⟨q1, q3⟩
    · obtain ⟨n, T, A, ok, h6, hT, hA, hl, _, h9, mT, mA⟩ := R i hi
      have g := ok.2.1
      have hn := ok.1
      have hs := l_same (r := n + 2) (L := zr 17 (z.1 36)) g hl (by omega) (fun p hp => zr_in (by omega))
      refine ⟨_, (ql_up z.1 36 (li T n (n + 2) (zr 17 (z.1 36))), z.2), sb c1 (sn n10 (sn q1 (sp q2 (c_ah4 hN hT g hn hi)))), sb m1 (sn n10 (sb q3 (sn n10 (sb (m_ends h9 mT g hi hn hN) ?_)))), ⟨fun s hs => up_ne (S := z.1) (k := 36) (by omega), rfl⟩⟩
      rw [m_ah4 hN (by show m_tab (ql_up z.1 36 (li T n (n + 2) (zr 17 (z.1 36))) 13) i n T; rw [up_ne (by decide)]; exact mT) g hn hi]
      have e : ∀ x3 a, a < 4 → ah T (P i 8) x2 x3 a = ah T (li T n (n + 2) (zr 17 (z.1 36))) x2 x3 a := fun x3 a ha => by
        unfold ah; rw [lb_c g (Nat.zero_le _) ha hs]
      rw [e _ 0 (by omega), e _ 1 (by omega), e _ 2 (by omega), e _ 3 (by omega)]
      rfl
    · refine ⟨-ii 1, z, ?_, sb m1 (sn n10 (sb q3 (sp rfl rfl))), fr_r z⟩
      rcases q1 with q1 | ⟨q1, q2⟩
      · exact sb c1 (sn n10 (sp q1 rfl))
      · exact sb c1 (sn n10 (sn q1 (sn q2 rfl)))
  · exact ⟨-ii 1, z, sb c1 (sp rfl rfl), sb m1 (sp rfl rfl), fr_r z⟩
theorem e_behind (hN : 1000 ≤ N) (R : pga P z.1) (x1 x2 : Int32) : ∃ r z', f_X10_behind N P v x1 x2 = some r ∧ f_X11_behind N z x1 x2 = some (r, z') ∧ fr z z' := by
  unfold f_X10_behind f_X10_behind_0 f_X11_behind f_X11_behind_0
  rcases ip_cases N x1 with ⟨i, hi, rfl, c1, m1⟩ | ⟨c1, m1⟩
  · rcases is_cases N x2 with ⟨q1, q2, q3⟩ | ⟨q1, q3⟩
    · obtain ⟨n, T, A, ok, h6, hT, hA, hl, _, h9, mT, mA⟩ := R i hi
      have g := ok.2.1
      have hn := ok.1
      have hs := l_same (r := n + 2) (L := zr 17 (z.1 36)) g hl (by omega) (fun p hp => zr_in (by omega))
      refine ⟨_, (ql_up z.1 36 (li T n (n + 2) (zr 17 (z.1 36))), z.2), sb c1 (sn n10 (sn q1 (sp q2 (c_bh4 hN hT g hn hi)))), sb m1 (sn n10 (sb q3 (sn n10 (sb (m_ends h9 mT g hi hn hN) ?_)))), ⟨fun s hs => up_ne (S := z.1) (k := 36) (by omega), rfl⟩⟩
      rw [m_bh4 hN (by show m_tab (ql_up z.1 36 (li T n (n + 2) (zr 17 (z.1 36))) 13) i n T; rw [up_ne (by decide)]; exact mT) g hn hi]
      have e : ∀ x3 a, a < 4 → bh T (P i 8) x2 x3 a = bh T (li T n (n + 2) (zr 17 (z.1 36))) x2 x3 a := fun x3 a ha => by
        unfold bh; rw [lb_c g (Nat.zero_le _) ha hs]
      rw [e _ 0 (by omega), e _ 1 (by omega), e _ 2 (by omega), e _ 3 (by omega)]
      rfl
    · refine ⟨-ii 1, z, ?_, sb m1 (sn n10 (sb q3 (sp rfl rfl))), fr_r z⟩
      rcases q1 with q1 | ⟨q1, q2⟩
      · exact sb c1 (sn n10 (sp q1 rfl))
      · exact sb c1 (sn n10 (sn q1 (sn q2 rfl)))
  · exact ⟨-ii 1, z, sb c1 (sp rfl rfl), sb m1 (sp rfl rfl), fr_r z⟩
/-! live places -/
def lv (n : Nat) (T : pw_T) (p : Nat) : Prop := qD n T p ∧ ∃ i, pD n T i p
theorem c_isLive {s : ql_St} {p : Nat} (h6 : s 6 0 = ii n) (hn : n ≤ 16) (hp : p ≤ n) (hl : ∀ p j, p ≤ n → (bt (s 8 p) j = true ↔ pD n T j p)) (hq : ∀ j, bt (s 9 0) j = true ↔ qD n T j) :
    (lv n T p → f_X6_isLive N s (ii p) = some (ii 1)) ∧ (¬ lv n T p → f_X6_isLive N s (ii p) = some (ii 0)) := by
  unfold f_X6_isLive f_X6_isLive_0
  rw [ii_nat (show p < 2147483648 by omega)]
  have e8 : s 8 p = ii 0 ↔ ¬ ∃ i, pD n T i p := by
    constructor
    · rintro h ⟨i, hi⟩
      have := (hl p i hp).mpr hi
      rw [h, bt_zero] at this; cases this
    · intro h
      refine Classical.byContradiction fun q => ?_
      obtain ⟨i, _, hi⟩ := bt_ne.mp q
      exact h ⟨i, (hl p i hp).mp hi⟩
  refine ⟨fun h => ?_, fun h => ?_⟩
  · refine sb (c_cgf h6 hn hp) (sn n10 (sb (c_holds (by omega)) ?_))
    rw [if_pos ((hq p).mpr h.1)]
    exact sn n10 (sp (ii_ib (by omega) (by omega)) (sn (fun x => e8.mp x h.2) rfl))
  · refine sb (c_cgf h6 hn hp) (sn n10 (sb (c_holds (by omega)) ?_))
    by_cases q : bt (s 9 0) p = true
    · rw [if_pos q]
      exact sn n10 (sp (ii_ib (by omega) (by omega)) (sp (e8.mpr (fun x => h ⟨(hq p).mp q, x⟩)) rfl))
    · rw [if_neg q]; exact sp rfl rfl
theorem c_dead {i : Nat} (hi : i < 4) (hn : n ≤ 16) (h6 : P i 6 0 = ii n) (hl : ∀ p j, p ≤ n → (bt (P i 8 p) j = true ↔ pD n T j p)) (hq : ∀ j, bt (P i 9 0) j = true ↔ qD n T j) : ∀ j p m x2, p + j = n + 1 → 1 ≤ p → j + 1 ≤ m →
    (∀ b, bt x2 b = true ↔ 1 ≤ b ∧ b < p ∧ ¬ lv n T b) → ∃ r, f_X10_dead_13 N P v m (ii i) x2 (ii p) = some r ∧ ∀ b, bt r b = true ↔ 1 ≤ b ∧ b ≤ n ∧ ¬ lv n T b := by
  intro j
  induction j with
  | zero =>
    intro p m x2 hp h1 hm hx
    obtain ⟨m, rfl⟩ : ∃ j, m = j + 1 := ⟨m - 1, by omega⟩
    obtain rfl : p = n + 1 := by omega
    refine ⟨x2, ?_, fun b => by rw [hx b]; exact ⟨fun ⟨a, b, c⟩ => ⟨a, by omega, c⟩, fun ⟨a, b, c⟩ => ⟨a, by omega, c⟩⟩⟩
    rw [f_X10_dead_13, ii_nat (show i < 2147483648 by omega), h6]
    exact sp (ii_ib (by omega) (by omega)) (sp (by rw [ii_lt (by omega) (by omega)]; omega) rfl)
  | succ j ih =>
    intro p m x2 hp h1 hm hx
    obtain ⟨m, rfl⟩ : ∃ j, m = j + 1 := ⟨m - 1, by omega⟩
    obtain ⟨l1, l2⟩ := c_isLive (N := N) h6 hn (show p ≤ n by omega) hl hq
    have pre : f_X10_dead_13 N P v (m + 1) (ii i) x2 (ii p) = (f_X6_isLive N (P i) (ii p)).bind (fun u4 => if u4 = 0 then f_X10_dead_45 N P v (f_X10_dead_13 N P v m) (ii i) (x2 ||| ((1 : Int32) <<< (ii p &&& 31))) (ii p) else f_X10_dead_45 N P v (f_X10_dead_13 N P v m) (ii i) x2 (ii p)) := by
      rw [f_X10_dead_13, ii_nat (show i < 2147483648 by omega), h6]
      exact sp (ii_ib (by omega) (by omega)) (sn (by rw [ii_lt (by omega) (by omega)]; omega) (sp (ii_ib (by omega) (by omega)) rfl))
    rw [pre]
    unfold f_X10_dead_45
    by_cases q : lv n T p
    · rw [l1 q, bd_s, lk_0, if_neg n10, lk_1, ii_add]
      refine ih (p + 1) m x2 (by omega) (by omega) (by omega) (fun b => ?_)
      rw [hx b]
      constructor
      · exact fun ⟨a, b, c⟩ => ⟨a, by omega, c⟩
      · rintro ⟨a, b', c⟩
        by_cases e : b = p
        · subst e; exact absurd q c
        · exact ⟨a, by omega, c⟩
    · rw [l2 q, bd_s, lk_0, if_pos rfl, lk_1, ii_add, lk_31]
      refine ih (p + 1) m _ (by omega) (by omega) (by omega) (fun b => ?_)
      rw [bt_or, bt_shl (by omega), Bool.or_eq_true, hx b, decide_eq_true_eq]
      constructor
      · rintro (⟨a, b', c⟩ | rfl)
        · exact ⟨a, by omega, c⟩
        · exact ⟨h1, by omega, q⟩
      · rintro ⟨a, b', c⟩
        by_cases e : b = p
        · exact Or.inr e
        · exact Or.inl ⟨a, by omega, c⟩
theorem bt_not (x : Int32) {i : Nat} (h : i < 32) : bt (x ^^^ (-ii 1)) i = !bt x i := by
  have e : ∀ i : Fin 32, bt (-ii 1) i.1 = true := by decide +kernel
  have e := e ⟨i, h⟩
  unfold bt at *
  rw [Int32.toBitVec_xor, BitVec.getLsbD_xor, e, Bool.xor_true]
theorem bt_mask {n i : Nat} (hn : n ≤ 16) (hi : i < 32) : bt ((ii 1 <<< (ii (n + 1) &&& ii 31)) - ii 2) i = decide (1 ≤ i ∧ i ≤ n) := by
  have t : ∀ n : Fin 17, ∀ i : Fin 32, bt ((ii 1 <<< (ii (n.1 + 1) &&& ii 31)) - ii 2) i.1 = decide (1 ≤ i.1 ∧ i.1 ≤ n.1) := by decide +kernel
  exact t ⟨n, by omega⟩ ⟨i, hi⟩
theorem sv_fr (z : ql_Z) (R V : Int32) : fr z (sv_s z R V) := ⟨fun s hs => (up_ne (S := ql_up z.1 32 (fun _ => R)) (k := 33) (by omega)).trans (up_ne (by omega)), rfl⟩
theorem e_dead (hN : 1000 ≤ N) (R : pga P z.1) (x1 : Int32) : ∃ r z', f_X10_dead N P v x1 = some r ∧ f_X11_dead N z x1 = some (r, z') ∧ fr z z' := by
  unfold f_X10_dead f_X10_dead_0 f_X11_dead f_X11_dead_0
  rcases ip_cases N x1 with ⟨i, hi, rfl, c1, m1⟩ | ⟨c1, m1⟩
  · obtain ⟨n, T, A, ok, h6, hT, hA, hl, hq, h9, mT, mA⟩ := R i hi
    have g := ok.2.1
    have hn := ok.1
    obtain ⟨r, e1, e2⟩ := c_dead (N := N) (v := v) hi hn h6 hl hq n 1 N (ii 0) (by omega) (by omega) (by omega) (fun b => by rw [bt_zero]; exact ⟨fun h => (by cases h), fun ⟨a, b, _⟩ => (by omega)⟩)
    refine ⟨r, sv_s z (ri T n (n + 1) (ii 1)) (vi T n (n + 1) (ii 0)), sb c1 (sn n10 e1), sb m1 (sn n10 (sb (m_surveys h9 mT g hi hn hN) (sp (ii_ib (by omega) (by omega)) ?_))), sv_fr z _ _⟩
    have e32 : (sv_s z (ri T n (n + 1) (ii 1)) (vi T n (n + 1) (ii 0))).1 32 0 = ri T n (n + 1) (ii 1) := rfl
    have e33 : (sv_s z (ri T n (n + 1) (ii 1)) (vi T n (n + 1) (ii 0))).1 33 0 = vi T n (n + 1) (ii 0) := rfl
    have e9 : (sv_s z (ri T n (n + 1) (ii 1)) (vi T n (n + 1) (ii 0))).1 9 (ii i).toNatClampNeg = ii n := by
      rw [ii_nat (by omega)]; exact h9
    rw [e32, e33, e9, lk_1, lk_2, lk_31, ii_add]
    refine congrArg some (Prod.ext (bt_ext fun b hb => ?_) rfl)
    show bt (((ri T n (n + 1) (ii 1) &&& vi T n (n + 1) (ii 0)) ^^^ (-ii 1)) &&& ((ii 1 <<< (ii (n + 1) &&& ii 31)) - ii 2)) b = bt r b
    rw [bt_and, bt_not _ hb, bt_and, bt_mask hn hb]
    have f1 := ri_bits (r := n + 1) g (show n < 32 by omega) (by omega) b
    have f2 := vi_bits (r := n + 1) g (show n < 32 by omega) (by omega) b
    have f3 := e2 b
    have rhs : bt r b = decide (bt r b = true) := by cases bt r b <;> rfl
    rw [rhs]
    by_cases a : 1 ≤ b ∧ b ≤ n
    · rw [decide_eq_true a, Bool.and_true]
      by_cases l : lv n T b
      · rw [f1.mpr l.1, f2.mpr ⟨a.2, l.2⟩, decide_eq_false (fun x => (f3.mp x).2.2 l)]; rfl
      · rw [decide_eq_true (f3.mpr ⟨a.1, a.2, l⟩)]
        have : ¬ (bt (ri T n (n + 1) (ii 1)) b = true ∧ bt (vi T n (n + 1) (ii 0)) b = true) := fun x => l ⟨f1.mp x.1, (f2.mp x.2).2⟩
        cases x1 : bt (ri T n (n + 1) (ii 1)) b with
        | false => rfl
        | true => cases x2 : bt (vi T n (n + 1) (ii 0)) b with
          | false => rfl
          | true => exact absurd ⟨x1, x2⟩ this
    · rw [decide_eq_false a, Bool.and_false, decide_eq_false (fun x => a ⟨(f3.mp x).1, (f3.mp x).2.1⟩)]
  · exact ⟨-ii 1, z, sb c1 (sp rfl rfl), sb m1 (sp rfl rfl), fr_r z⟩
theorem e_count (hN : 1000 ≤ N) (R : pga P z.1) (ht : v.1 1 0 = z.1 2 0) (x1 : Int32) : ∃ r, f_X10_count N P v x1 = some r ∧ f_X11_count N z x1 = some r := by
  unfold f_X10_count f_X10_count_0 f_X11_count f_X11_count_0
  have e : ∀ i, i < 4 → P i 6 0 = z.1 9 i := fun i hi => by
    obtain ⟨n, T, A, ok, h6, hT, hA, hl, hq, h9, mT, mA⟩ := R i hi
    rw [h6, h9]
  rw [lk_1, lk_0]
  by_cases q1 : x1 = ii 1
  · subst q1
    exact ⟨_, sp rfl rfl, sn n10 (sp rfl (by rw [ht]))⟩
  · by_cases q0 : x1 = ii 0
    · subst q0
      refine ⟨_, sn n01 (sp rfl ?_), sp rfl rfl⟩
      have s : ∀ k m x, k < 4 → f_X10_count_20 N P v (m + 1) x (ii k) = f_X10_count_20 N P v m (x + z.1 9 k) (ii (k + 1)) := fun k m x hk => by
        rw [f_X10_count_20, ii_nat (show k < 2147483648 by omega), lk_4, lk_1, e k hk, ii_add]
        exact sn (by rw [ii_le (by omega) (by omega)]; omega) (sp (ii_ib (by omega) (by omega)) rfl)
      obtain ⟨j, hj⟩ : ∃ j, N = j + 5 := ⟨N - 5, by omega⟩
      have en : f_X10_count_20 N P v N (ii 0) (ii 0) = f_X10_count_20 N P v (j + 5) (ii 0) (ii 0) := by rw [← hj]
      rw [en, s 0 _ _ (by omega), s 1 _ _ (by omega), s 2 _ _ (by omega), s 3 _ _ (by omega), f_X10_count_20, lk_4, show ii 0 + z.1 9 0 = z.1 9 0 from Int32.zero_add _]
      exact sp (by rw [ii_le (by omega) (by omega)]; omega) rfl
    · exact ⟨-ii 1, sn q1 (sn q0 rfl), sn q0 (sn q1 rfl)⟩
end
