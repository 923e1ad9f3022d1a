/-! the reference's search: its loops -/
def de (k : Nat) : Option Nat := if k = 0 then none else some (k - 1)
theorem em_de (k : Nat) : ii k - ii 1 = em (de k) := by
  unfold de
  by_cases h : k = 0
  · rw [if_pos h, h]; rfl
  · rw [if_neg h, ii_sub (by omega)]; rfl
theorem de_0 (k : Nat) (hk : k < 1000) : em (de k) = ii 0 ↔ k = 1 := by
  unfold de
  by_cases h : k = 0
  · rw [if_pos h]
    show -ii 1 = ii 0 ↔ _
    rw [ni_eq_ii (by omega) (by omega)]; omega
  · rw [if_neg h]
    show ii (k - 1) = ii 0 ↔ _
    rw [ii_eq (by omega) (by omega)]; omega
theorem de_le (k : Nat) (hk : k < 1000) : em (de k) ≤ ii 0 ↔ k ≤ 1 := by
  unfold de
  by_cases h : k = 0
  · rw [if_pos h]
    show -ii 1 ≤ ii 0 ↔ _
    rw [ni_le_ii (by omega) (by omega)]; simp only [true_iff]; omega
  · rw [if_neg h]
    show ii (k - 1) ≤ ii 0 ↔ _
    rw [ii_le (by omega) (by omega)]; omega
theorem de_s {k : Nat} (hk : 2 ≤ k) : em (de k) = ii (k - 1) := by
  unfold de; rw [if_neg (by omega)]; rfl
theorem ii_div {a b : Nat} (ha : a < 2147483648) (hb : b < 2147483648) : ii a / ii b = ii (a / b) := (Int32.ofNat_div ha hb).symm
section
variable {N : Nat} {n1 n2 i1 i2 : Nat} {T1 T2 : pw_T} {A1 A2 : Nat → Nat} {w : Bool} {z0 : ql_Z}
theorem nx_le {n : Nat} {T : pw_T} {A : Nat → Nat} (g : pw_g n T) {u b a : Nat} (hu : u ≤ n + 1) (ha : a < 4) : en (nx T A u b a) ≤ n + 1 := by
  refine en_le fun v hv => ?_
  unfold nx at hv
  by_cases q : 2 ≤ u ∧ A (u - 1) = b
  · rw [if_pos q] at hv; exact g _ a v (by omega) ha hv
  · rw [if_neg q] at hv; cases hv
theorem ta_bd (g1 : pw_g n1 T1) (g2 : pw_g n2 T2) (h1 : n1 ≤ 16) (h2 : n2 ≤ 16) : ∀ n x y, ta 4 (ini_m T1 T2) (st_m T1 T2 A1 A2) n x = some y → y / 18 ≤ n1 + 1 ∧ y % 18 ≤ n2 + 1
  | 0, x, y, h => by
    have h : (if x < 4 then ini_m T1 T2 x else none) = some y := h
    by_cases q : x < 4
    · rw [if_pos q] at h
      have e1 := en_le (n := n1) (o := T1 0 x) (fun v hv => g1 0 x v (by omega) q hv)
      have e2 := en_le (n := n2) (o := T2 0 x) (fun v hv => g2 0 x v (by omega) q hv)
      obtain ⟨q1, q2⟩ := cd_of (by omega) h
      omega
    · rw [if_neg q] at h; cases h
  | n + 1, x, y, h => by
    obtain ⟨y', q1, q2⟩ := ta_s h
    obtain ⟨b1, b2⟩ := ta_bd g1 g2 h1 h2 n _ y' q1
    have e1 := nx_le (A := A1) (b := (x % 12) / 4 + 1) g1 b1 (show x % 12 % 4 < 4 by omega)
    have e2 := nx_le (A := A2) (b := (x % 12) / 4 + 1) g2 b2 (show x % 12 % 4 < 4 by omega)
    obtain ⟨q1, q2⟩ := cd_of (by omega) q2
    omega
/-- what the search reads of the state -/
def mp (z : ql_Z) (i n : Nat) (T : pw_T) (A : Nat → Nat) : Prop := pw_ok n T A ∧ m_tab (z.1 13) i n T ∧ m_act (z.1 7) i n A
theorem mp_f {z z' : ql_Z} {i n : Nat} {T : pw_T} {A : Nat → Nat} (h : mp z i n T A) (e : ∀ s, s < 26 → z'.1 s = z.1 s) : mp z' i n T A := by
  refine ⟨h.1, ?_, ?_⟩
  · rw [e 13 (by omega)]; exact h.2.1
  · rw [e 7 (by omega)]; exact h.2.2
def mx (T1 T2 : pw_T) (A1 A2 : Nat → Nat) (w : Bool) (z0 z : ql_Z) (y k d : Nat) : Prop :=
  ∃ q lv nm dg c, mi 4 (ini_m T1 T2) (st_m T1 T2 A1 A2) z0 z q lv nm dg c k d ∧ k < c ∧ q k = y ∧ ∀ j, j ≤ k → ¬ te w (q j)
theorem m_mx {z : ql_Z} {y k b a : Nat} (p1 : mp z0 i1 n1 T1 A1) (p2 : mp z0 i2 n2 T2 A2) (ha : a < 4) (hb : b < 3) (h : mx T1 T2 A1 A2 w z0 z y k (4 * b + a)) :
    ∃ z', mx T1 T2 A1 A2 w z0 z' y k (4 * b + a + 1) ∧ f_X11_meets N z (em (nx T1 A1 (y / 18) (b + 1) a)) (em (nx T2 A2 (y % 18) (b + 1) a)) (ii k) (ii (4 * b + a)) = some z' := by
  obtain ⟨q, lv, nm, dg, c, h, hk, hy, hq⟩ := h
  subst hy
  obtain ⟨b1, b2⟩ := ta_bd p1.1.2.1 p2.1.2.1 p1.1.1 p2.1.1 _ _ _ (h.2.2.2.2.2.1 k hk).1
  have e1 := nx_le (A := A1) (b := b + 1) p1.1.2.1 b1 ha
  have e2 := nx_le (A := A2) (b := b + 1) p2.1.2.1 b2 ha
  have l1 := p1.1.1
  have l2 := p2.1.1
  obtain ⟨z', q', lv', nm', dg', c', f, h', hc, hqq⟩ := m_note (N := N) (o1 := nx T1 A1 (q k / 18) (b + 1) a) (o2 := nx T2 A2 (q k % 18) (b + 1) a) h hk (show 4 * b + a < 12 by omega) (by omega) (by
    unfold st_m
    rw [show (4 * b + a) / 4 = b by omega, show (4 * b + a) % 4 = a by omega])
  exact ⟨z', ⟨q', lv', nm', dg', c', h', by omega, hqq k hk, fun j hj => by rw [hqq j (by omega)]; exact hq j hj⟩, f⟩
theorem mx_f {z : ql_Z} {y k d : Nat} (h : mx T1 T2 A1 A2 w z0 z y k d) : (∀ s, s < 26 → z.1 s = z0.1 s) ∧ k < 324 := by
  obtain ⟨q, lv, nm, dg, c, h, hk, -, -⟩ := h
  have := bi_c h.2.2.2.2.2
  exact ⟨h.1, by omega⟩
theorem mx_b {z : ql_Z} {y k d : Nat} (p1 : pw_ok n1 T1 A1) (p2 : pw_ok n2 T2 A2) (h : mx T1 T2 A1 A2 w z0 z y k d) : y / 18 ≤ n1 + 1 ∧ y % 18 ≤ n2 + 1 := by
  obtain ⟨q, lv, nm, dg, c, h, hk, rfl, -⟩ := h
  exact ta_bd p1.2.1 p2.2.1 p1.1 p2.1 _ _ _ (h.2.2.2.2.2.1 k hk).1
def fg (u b : Nat) (A : Nat → Nat) : Int32 := if 2 ≤ u ∧ A (u - 1) = b then ii 1 else ii 0
/-- where an act leads, if it is that program's act -/
theorem m_tof {z : ql_Z} {i n u b a : Nat} {T : pw_T} {A : Nat → Nat} (p : mp z i n T A) (hi : i < 4) (hu : u ≤ n + 1) (ha : a < 4) {β : Type} (k : Int32 → Option β) :
    (if fg u b A = ii 0 then k (-ii 1) else (f_X11_to N z (ii i) (em (de u)) (ii a)).bind fun v => k v) = k (em (nx T A u b a)) := by
  unfold fg nx
  by_cases q : 2 ≤ u ∧ A (u - 1) = b
  · rw [if_pos q, if_pos q, if_neg n10, de_s q.1, m_to p.2.1 hi p.1.1 (by omega) ha]; rfl
  · rw [if_neg q, if_neg q, if_pos rfl]; rfl
theorem m_pa195s {z : ql_Z} {y k b a m : Nat} {x3 : Int32} {k71 : ql_Z → Int32 → Int32 → Int32 → Int32 → Option (Int32 × ql_Z)} {k138 : ql_Z → Int32 → Int32 → Int32 → Int32 → Int32 → Int32 → Int32 → Option (Int32 × ql_Z)} (p1 : mp z0 i1 n1 T1 A1) (p2 : mp z0 i2 n2 T2 A2) (h1 : i1 < 4) (h2 : i2 < 4) (ha : a < 4) (hb : b < 3) (hf : ¬ (fg (y / 18) (b + 1) A1 = ii 0 ∧ fg (y % 18) (b + 1) A2 = ii 0)) (h : mx T1 T2 A1 A2 w z0 z y k (4 * b + a)) :
    ∃ z', mx T1 T2 A1 A2 w z0 z' y k (4 * b + a + 1) ∧ f_X11_parts_195 N k71 k138 (m + 1) z (ii i1) (ii i2) x3 (ii k) (em (de (y / 18))) (em (de (y % 18))) (ii (b + 1)) (fg (y / 18) (b + 1) A1) (fg (y % 18) (b + 1) A2) (ii a) = f_X11_parts_195 N k71 k138 m z' (ii i1) (ii i2) x3 (ii k) (em (de (y / 18))) (em (de (y % 18))) (ii (b + 1)) (fg (y / 18) (b + 1) A1) (fg (y % 18) (b + 1) A2) (ii (a + 1)) := by
  obtain ⟨f0, hk⟩ := mx_f h
  obtain ⟨b1, b2⟩ := mx_b p1.1 p2.1 h
  obtain ⟨z', h', f⟩ := m_mx (N := N) p1 p2 ha hb h
  refine ⟨z', h', ?_⟩
  rw [f_X11_parts_195, lk_4, lk_0]
  refine sn (by rw [ii_le (by omega) (by omega)]; omega) ?_
  have t1 := m_tof (N := N) (b := b + 1) (mp_f p1 f0) h1 b1 ha (fun u => f_X11_parts_230 N k71 k138 (f_X11_parts_195 N k71 k138 m) z (ii i1) (ii i2) x3 (ii k) (em (de (y / 18))) (em (de (y % 18))) (ii (b + 1)) (fg (y / 18) (b + 1) A1) (fg (y % 18) (b + 1) A2) (ii a) u)
  have t2 := m_tof (N := N) (b := b + 1) (mp_f p2 f0) h2 b2 ha (fun u => f_X11_parts_248 N k71 k138 (f_X11_parts_195 N k71 k138 m) z (ii i1) (ii i2) x3 (ii k) (em (de (y / 18))) (em (de (y % 18))) (ii (b + 1)) (fg (y / 18) (b + 1) A1) (fg (y % 18) (b + 1) A2) (ii a) u (em (nx T1 A1 (y / 18) (b + 1) a)))
  have key : f_X11_parts_211 N k71 k138 (f_X11_parts_195 N k71 k138 m) z (ii i1) (ii i2) x3 (ii k) (em (de (y / 18))) (em (de (y % 18))) (ii (b + 1)) (fg (y / 18) (b + 1) A1) (fg (y % 18) (b + 1) A2) (ii a) = f_X11_parts_195 N k71 k138 m z' (ii i1) (ii i2) x3 (ii k) (em (de (y / 18))) (em (de (y % 18))) (ii (b + 1)) (fg (y / 18) (b + 1) A1) (fg (y % 18) (b + 1) A2) (ii (a + 1)) := by
    unfold f_X11_parts_211
    rw [lk_0, lk_1, t1]
    unfold f_X11_parts_230
    rw [lk_0, lk_1, t2]
    unfold f_X11_parts_248
    rw [lk_4, lk_1, ii_mul, ii_sub (by omega), ii_add, show 4 * (b + 1) - 4 + a = 4 * b + a by omega, f, bd_s, ii_add]
  by_cases q1 : fg (y / 18) (b + 1) A1 = ii 0
  · exact sp q1 (sn (fun q2 => hf ⟨q1, q2⟩) key)
  · exact sn q1 key
end
