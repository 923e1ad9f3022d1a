/-! the reference's surveys -/
theorem or_z (x : Int32) : x ||| ii 0 = x := bt_ext fun i _ => by rw [bt_or, bt_zero, Bool.or_false]
theorem up_w {S : ql_St} {k l : Nat} (h : k ≠ l) (f g f' g' : Nat → Int32) : ql_up (ql_up (ql_up (ql_up S k f) l g) k f') l g' = ql_up (ql_up S k f') l g' := by
  funext j
  by_cases e : j = l
  · subst e; rw [up_same, up_same]
  · rw [up_ne e, up_ne e]
    by_cases e' : j = k
    · subst e'; rw [up_same, up_same]
    · rw [up_ne e', up_ne e', up_ne e, up_ne e']
def v1 (T : pw_T) (p : Nat) (V : Int32) (a : Nat) : Int32 := match T p a with
  | none => V
  | some 0 => V ||| (ii 1 <<< (ii p &&& ii 31))
  | some (v + 1) => if bt V (v + 1) = true then V ||| (ii 1 <<< (ii p &&& ii 31)) else V
def v4 (T : pw_T) (p : Nat) (V : Int32) : Int32 := v1 T p (v1 T p (v1 T p (v1 T p V 0) 1) 2) 3
def vr (T : pw_T) : Nat → Int32 → Int32
  | 0, V => V
  | k + 1, V => v4 T k (vr T k V)
def vi (T : pw_T) (n : Nat) : Nat → Int32 → Int32
  | 0, V => V
  | r + 1, V => vi T n r (vr T (n + 1) V)
theorem v1_q {T : pw_T} {p a i : Nat} {V : Int32} (h : bt V i = true) : bt (v1 T p V a) i = true := by
  have o : bt (V ||| (ii 1 <<< (ii p &&& ii 31))) i = true := by rw [bt_or, h]; rfl
  unfold v1
  cases T p a with
  | none => exact h
  | some v => cases v with
    | zero => exact o
    | succ v =>
      show bt (if bt V (v + 1) = true then _ else V) i = true
      by_cases e : bt V (v + 1) = true
      · rw [if_pos e]; exact o
      · rw [if_neg e]; exact h
def vh (T : pw_T) (V : Int32) (p a : Nat) : Prop := T p a = some 0 ∨ ∃ v, T p a = some (v + 1) ∧ bt V (v + 1) = true
theorem v1_h {T : pw_T} {p a : Nat} {V : Int32} (hp : p < 32) (h : vh T V p a) : bt (v1 T p V a) p = true := by
  have o : bt (V ||| (ii 1 <<< (ii p &&& ii 31))) p = true := by rw [bt_or, bt_shl hp]; simp
  unfold v1
  rcases h with h | ⟨v, h, hb⟩
  · rw [h]; exact o
  · rw [h]; show bt (if bt V (v + 1) = true then _ else V) p = true
    rw [if_pos hb]; exact o
theorem vh_q {T : pw_T} {V V' : Int32} {p a : Nat} (q : ∀ i, bt V i = true → bt V' i = true) (h : vh T V p a) : vh T V' p a := by
  rcases h with h | ⟨v, h, hb⟩
  · exact Or.inl h
  · exact Or.inr ⟨v, h, q _ hb⟩
theorem v4_q {T : pw_T} {p i : Nat} {V : Int32} (h : bt V i = true) : bt (v4 T p V) i = true := v1_q (v1_q (v1_q (v1_q h)))
theorem v4_h {T : pw_T} {p a : Nat} {V : Int32} (hp : p < 32) (ha : a < 4) (h : vh T V p a) : bt (v4 T p V) p = true := by
  have c : a = 0 ∨ a = 1 ∨ a = 2 ∨ a = 3 := by omega
  rcases c with rfl | rfl | rfl | rfl
  · exact v1_q (v1_q (v1_q (v1_h hp h)))
  · exact v1_q (v1_q (v1_h hp (vh_q (fun _ => v1_q) h)))
  · exact v1_q (v1_h hp (vh_q (fun _ x => v1_q (v1_q x)) h))
  · exact v1_h hp (vh_q (fun _ x => v1_q (v1_q (v1_q x))) h)
theorem vr_q {T : pw_T} {i : Nat} {V : Int32} (h : bt V i = true) : ∀ k, bt (vr T k V) i = true
  | 0 => h
  | k + 1 => v4_q (vr_q h k)
theorem vr_h {T : pw_T} {q a : Nat} {V : Int32} (hq : q < 32) (ha : a < 4) (h : vh T V q a) : ∀ k, q < k → bt (vr T k V) q = true
  | 0, hk => absurd hk (Nat.not_lt_zero q)
  | k + 1, hk => by
    by_cases e : q = k
    · subst e; exact v4_h hq ha (vh_q (fun _ x => vr_q x q) h)
    · exact v4_q (vr_h hq ha h k (by omega))
def vs_d (n : Nat) (T : pw_T) (V : Int32) : Prop := ∀ p, bt V p = true → p ≤ n ∧ ∃ i, pD n T i p
theorem v1_d {n : Nat} {T : pw_T} (g : pw_g n T) (hn : n < 32) {p a : Nat} {V : Int32} (hp : p ≤ n) (ha : a < 4) (h : vs_d n T V) : vs_d n T (v1 T p V a) := fun q x => by
  have o : (∃ i, pD n T i p) → bt (V ||| (ii 1 <<< (ii p &&& ii 31))) q = true → q ≤ n ∧ ∃ i, pD n T i q := fun ex y => by
    rw [bt_or, bt_shl (show p < 32 by omega), Bool.or_eq_true, decide_eq_true_eq] at y
    rcases y with y | y
    · exact h q y
    · subst y; exact ⟨hp, ex⟩
  unfold v1 at x
  cases e : T p a with
  | none => rw [e] at x; exact h q x
  | some v => cases v with
    | zero => rw [e] at x; exact o ⟨a, pD_e g hp ⟨ha, e⟩⟩ x
    | succ v =>
      rw [e] at x
      have x : bt (if bt V (v + 1) = true then V ||| (ii 1 <<< (ii p &&& ii 31)) else V) q = true := x
      by_cases b : bt V (v + 1) = true
      · rw [if_pos b] at x
        obtain ⟨_, i, hi⟩ := h _ b
        exact o ⟨i, pD_s g hp ha e (Nat.succ_pos v) hi⟩ x
      · rw [if_neg b] at x; exact h q x
theorem v4_d {n : Nat} {T : pw_T} (g : pw_g n T) (hn : n < 32) {p : Nat} {V : Int32} (hp : p ≤ n) (h : vs_d n T V) : vs_d n T (v4 T p V) :=
  v1_d g hn hp (by omega) (v1_d g hn hp (by omega) (v1_d g hn hp (by omega) (v1_d g hn hp (by omega) h)))
theorem vr_d {n : Nat} {T : pw_T} (g : pw_g n T) (hn : n < 32) {V : Int32} (h : vs_d n T V) : ∀ k, k ≤ n + 1 → vs_d n T (vr T k V)
  | 0, _ => h
  | k + 1, hk => v4_d g hn (by omega) (vr_d g hn h k (by omega))
theorem vi_d {n : Nat} {T : pw_T} (g : pw_g n T) (hn : n < 32) : ∀ r (V : Int32), vs_d n T V → vs_d n T (vi T n r V)
  | 0, _, h => h
  | r + 1, _, h => vi_d g hn r _ (vr_d g hn h _ (Nat.le_refl _))
theorem vr_0 {n : Nat} {T : pw_T} (hn : n < 32) (V : Int32) {p i : Nat} (hp : p ≤ n) (h : pR T i 0 p) : bt (vr T (n + 1) V) p = true :=
  vr_h (by omega) h.1 (Or.inl h.2) (n + 1) (by omega)
theorem vr_s {n s : Nat} {T : pw_T} (g : pw_g n T) (hn : n < 32) {V : Int32} (h : ∀ p i, p ≤ n → pR T i s p → bt V p = true) {p i : Nat} (hp : p ≤ n) (x : pR T i (s + 1) p) : bt (vr T (n + 1) V) p = true := by
  rcases x with x | ⟨a, v, ha, hT, hv, x⟩
  · exact vr_0 hn V hp x
  · obtain ⟨w, rfl⟩ : ∃ w, v = w + 1 := ⟨v - 1, by omega⟩
    exact vr_h (by omega) ha (Or.inr ⟨w, hT, h _ i (g p a _ hp ha hT) x⟩) (n + 1) (by omega)
theorem vi_c {n : Nat} {T : pw_T} (g : pw_g n T) (hn : n < 32) : ∀ r s (V : Int32), (∀ p i, p ≤ n → pR T i s p → bt V p = true) → ∀ p i, p ≤ n → pR T i (s + r) p → bt (vi T n r V) p = true
  | 0, _, _, h, p, i, hp, x => h p i hp x
  | r + 1, s, V, h, p, i, hp, x => vi_c g hn r (s + 1) (vr T (n + 1) V) (fun p i hp x => vr_s g hn h hp x) p i hp (by rw [show s + 1 + r = s + (r + 1) by omega]; exact x)
def lD (n : Nat) (T : pw_T) (p : Nat) : Prop := p ≤ n ∧ ∃ i, pD n T i p
theorem vi_bits {n r : Nat} {T : pw_T} (g : pw_g n T) (hn : n < 32) (hr : n + 1 ≤ r) (p : Nat) : bt (vi T n r (ii 0)) p = true ↔ lD n T p := by
  constructor
  · exact vi_d g hn r _ (fun q x => by rw [bt_zero] at x; cases x) p
  · rintro ⟨hp, i, x⟩
    obtain ⟨d, rfl⟩ : ∃ d, r = d + 1 := ⟨r - 1, by omega⟩
    refine vi_c g hn d 0 (vr T (n + 1) (ii 0)) (fun p i hp x => vr_0 hn _ hp x) p i hp ?_
    have := st_up (S := pR T i) (m := n + 1) (fun k p _ h => pR_s k p h) (k := n) (d - n) p (by omega) x
    rwa [show n + (d - n) = 0 + d by omega] at this
/-- the reference tests at each atom: that comes to the same -/
def w1 (T : pw_T) (p : Nat) (R : Int32) (a : Nat) : Int32 := if bt R p = true then r1 T p R a else R
theorem w4_eq (T : pw_T) (p : Nat) (R : Int32) : w1 T p (w1 T p (w1 T p (w1 T p R 0) 1) 2) 3 = rp T p R := by
  unfold rp
  by_cases h : bt R p = true
  · have e : ∀ a, ∀ R', bt R' p = true → w1 T p R' a = r1 T p R' a := fun a R' q => by rw [w1, if_pos q]
    rw [if_pos h, e 0 R h, e 1 _ (r1_q h), e 2 _ (r1_q (r1_q h)), e 3 _ (r1_q (r1_q (r1_q h)))]; rfl
  · have e : ∀ a, w1 T p R a = R := fun a => by rw [w1, if_neg h]
    rw [if_neg h, e 0, e 1, e 2, e 3]
section
variable {N n : Nat} {T : pw_T}
abbrev sv_s (z : ql_Z) (R V : Int32) : ql_Z := (ql_up (ql_up z.1 32 (fun _ => R)) 33 (fun _ => V), z.2)
theorem m_sv37s {z : ql_Z} {i p a m : Nat} {R V x2 : Int32} {k12 : ql_Z → Int32 → Int32 → Option ql_Z} {k24 : ql_Z → Int32 → Int32 → Int32 → Option ql_Z} (hT : m_tab (z.1 13) i n T) (g : pw_g n T) (hi : i < 4) (hn : n ≤ 16) (hp : p ≤ n) (ha : a < 4) :
    f_X11_surveys_37 N k12 k24 (m + 1) (sv_s z R V) (ii i) x2 (ii p) (ii a) = f_X11_surveys_37 N k12 k24 m (sv_s z (w1 T p R a) (v1 T p V a)) (ii i) x2 (ii p) (ii (a + 1)) := by
  have h := m_to (N := N) (z := sv_s z R V) (i := i) (p := p) (a := a) (by show m_tab ((ql_up (ql_up z.1 32 (fun _ => R)) 33 (fun _ => V)) 13) i n T; rw [up_ne (by decide), up_ne (by decide)]; exact hT) hi hn hp ha
  have hv := g p a
  have e32 : (sv_s z R V).1 32 0 = R := rfl
  have e33 : (sv_s z R V).1 33 0 = V := rfl
  rw [f_X11_surveys_37, h, bd_s, e32]
  unfold f_X11_surveys_82 f_X11_surveys_83 f_X11_surveys_115 f_X11_surveys_121 f_X11_surveys_122
  rw [e33]
  have wp : ∀ R' V', ((ql_up (ql_up (sv_s z R V).1 32 (fun _ => R')) 33 (fun _ => V'), (sv_s z R V).2) : ql_Z) = sv_s z R' V' := fun R' V' => by
    show (ql_up (ql_up (ql_up (ql_up z.1 32 _) 33 _) 32 _) 33 _, z.2) = _
    rw [up_w (by decide)]
  unfold w1 v1 r1
  have b32 : p < 32 := by omega
  cases e : T p a with
  | none =>
    simp only [em, lk_0, lk_1, lk_2, lk_3, lk_4, lk_5, lk_6, lk_7, lk_8, lk_9, lk_10, lk_11, lk_12, lk_13, lk_14, lk_15, lk_16, lk_17, lk_18, lk_19, lk_20, lk_21, lk_22, lk_23, lk_24, lk_25, lk_26, lk_31, lk_32, lk_68, lk_97, lk_100, lk_122, lk_200, lk_255, lk_299, lk_300, lk_301, lk_310, lk_324, lk_400, lk_800, lk_1000, lk_1600, lk_2000, lk_10000, or_z, bt_shr b32, wp]
    simp (disch := omega) only [ii_le, if_neg, ni_le_ii, ni_eq_ii, ii_add, if_true, ite_self]
  | some v => cases v with
    | zero =>
      simp only [em, lk_0, lk_1, lk_2, lk_3, lk_4, lk_5, lk_6, lk_7, lk_8, lk_9, lk_10, lk_11, lk_12, lk_13, lk_14, lk_15, lk_16, lk_17, lk_18, lk_19, lk_20, lk_21, lk_22, lk_23, lk_24, lk_25, lk_26, lk_31, lk_32, lk_68, lk_97, lk_100, lk_122, lk_200, lk_255, lk_299, lk_300, lk_301, lk_310, lk_324, lk_400, lk_800, lk_1000, lk_1600, lk_2000, lk_10000, or_z, bt_shr b32, wp]
      simp (disch := omega) only [ii_le, if_neg, if_pos, if_true, ii_eq, ii_add, ite_self]
    | succ v =>
      have hv := hv _ hp ha e
      have c32 : v + 1 < 32 := by omega
      simp only [em, lk_0, lk_1, lk_2, lk_3, lk_4, lk_5, lk_6, lk_7, lk_8, lk_9, lk_10, lk_11, lk_12, lk_13, lk_14, lk_15, lk_16, lk_17, lk_18, lk_19, lk_20, lk_21, lk_22, lk_23, lk_24, lk_25, lk_26, lk_31, lk_32, lk_68, lk_97, lk_100, lk_122, lk_200, lk_255, lk_299, lk_300, lk_301, lk_310, lk_324, lk_400, lk_800, lk_1000, lk_1600, lk_2000, lk_10000, or_z, bt_shr b32, bt_shr c32, wp]
      simp (disch := omega) only [ii_le, if_neg, ii_eq, ii_add]
      by_cases q1 : bt R p = true
      · by_cases q2 : bt V (v + 1) = true
        · simp only [if_pos q1, if_pos q2]
        · simp only [if_pos q1, if_neg q2]
      · by_cases q2 : bt V (v + 1) = true
        · simp only [if_neg q1, if_pos q2]
        · simp only [if_neg q1, if_neg q2]
theorem m_sv37 {z : ql_Z} {i p m : Nat} {R V x2 : Int32} {k12 : ql_Z → Int32 → Int32 → Option ql_Z} {k24 : ql_Z → Int32 → Int32 → Int32 → Option ql_Z} (hT : m_tab (z.1 13) i n T) (g : pw_g n T) (hi : i < 4) (hn : n ≤ 16) (hp : p ≤ n) (hm : 5 ≤ m) :
    f_X11_surveys_37 N k12 k24 m (sv_s z R V) (ii i) x2 (ii p) (ii 0) = k24 (sv_s z (rp T p R) (v4 T p V)) (ii i) x2 (ii (p + 1)) := by
  obtain ⟨m, rfl⟩ : ∃ j, m = j + 5 := ⟨m - 5, by omega⟩
  rw [m_sv37s hT g hi hn hp (by omega), m_sv37s hT g hi hn hp (by omega), m_sv37s hT g hi hn hp (by omega), m_sv37s hT g hi hn hp (by omega), f_X11_surveys_37, w4_eq]
  simp (disch := omega) only [lk_0, lk_1, lk_2, lk_3, lk_4, lk_5, lk_6, lk_7, lk_8, lk_9, lk_10, lk_11, lk_12, lk_13, lk_14, lk_15, lk_16, lk_17, lk_18, lk_19, lk_20, lk_21, lk_22, lk_23, lk_24, lk_25, lk_26, lk_31, lk_32, lk_68, lk_97, lk_100, lk_122, lk_200, lk_255, lk_299, lk_300, lk_301, lk_310, lk_324, lk_400, lk_800, lk_1000, lk_1600, lk_2000, lk_10000, ii_le, if_pos, ii_add]
  rfl
theorem m_sv24 {z : ql_Z} {i : Nat} {R V x2 : Int32} {k12 : ql_Z → Int32 → Int32 → Option ql_Z} (h9 : z.1 9 i = ii n) (hT : m_tab (z.1 13) i n T) (g : pw_g n T) (hi : i < 4) (hn : n ≤ 16) (hN : 1000 ≤ N) :
    ∀ j p m, p + j = n + 1 → j + 1 ≤ m → f_X11_surveys_24 N k12 m (sv_s z (rr T p R) (vr T p V)) (ii i) x2 (ii p) = k12 (sv_s z (rr T (n + 1) R) (vr T (n + 1) V)) (ii i) (x2 + 1)
  | 0, p, m, hp, hm => by
    obtain ⟨m, rfl⟩ : ∃ j, m = j + 1 := ⟨m - 1, by omega⟩
    obtain rfl : p = n + 1 := by omega
    rw [f_X11_surveys_24]
    simp (disch := omega) only [lk_0, lk_1, lk_2, lk_3, lk_4, lk_5, lk_6, lk_7, lk_8, lk_9, lk_10, lk_11, lk_12, lk_13, lk_14, lk_15, lk_16, lk_17, lk_18, lk_19, lk_20, lk_21, lk_22, lk_23, lk_24, lk_25, lk_26, lk_31, lk_32, lk_68, lk_97, lk_100, lk_122, lk_200, lk_255, lk_299, lk_300, lk_301, lk_310, lk_324, lk_400, lk_800, lk_1000, lk_1600, lk_2000, lk_10000, ii_add, ii_mul, ii_lt, ii_le, ii_eq, ii_nat, ib_t, ni_lt_ii, ni_le_ii, ii_lt_ni, ii_le_ni, ni_eq_ii, ii_eq_ni, ni_eq_ni, if_pos, if_neg, if_true, if_false, eq_self, and_self, not_true_eq_false, not_false_eq_true, bd_s, up_same, up_ne, ud_same, ud_ne]
    rw [h9]
    simp (disch := omega) only [lk_0, lk_1, lk_2, lk_3, lk_4, lk_5, lk_6, lk_7, lk_8, lk_9, lk_10, lk_11, lk_12, lk_13, lk_14, lk_15, lk_16, lk_17, lk_18, lk_19, lk_20, lk_21, lk_22, lk_23, lk_24, lk_25, lk_26, lk_31, lk_32, lk_68, lk_97, lk_100, lk_122, lk_200, lk_255, lk_299, lk_300, lk_301, lk_310, lk_324, lk_400, lk_800, lk_1000, lk_1600, lk_2000, lk_10000, ii_add, ii_mul, ii_lt, ii_le, ii_eq, ii_nat, ib_t, ni_lt_ii, ni_le_ii, ii_lt_ni, ii_le_ni, ni_eq_ii, ii_eq_ni, ni_eq_ni, if_pos, if_neg, if_true, if_false, eq_self, and_self, not_true_eq_false, not_false_eq_true, bd_s, up_same, up_ne, ud_same, ud_ne]
  | j + 1, p, m, hp, hm => by
    obtain ⟨m, rfl⟩ : ∃ j, m = j + 1 := ⟨m - 1, by omega⟩
    rw [f_X11_surveys_24]
    simp (disch := omega) only [lk_0, lk_1, lk_2, lk_3, lk_4, lk_5, lk_6, lk_7, lk_8, lk_9, lk_10, lk_11, lk_12, lk_13, lk_14, lk_15, lk_16, lk_17, lk_18, lk_19, lk_20, lk_21, lk_22, lk_23, lk_24, lk_25, lk_26, lk_31, lk_32, lk_68, lk_97, lk_100, lk_122, lk_200, lk_255, lk_299, lk_300, lk_301, lk_310, lk_324, lk_400, lk_800, lk_1000, lk_1600, lk_2000, lk_10000, ii_add, ii_mul, ii_lt, ii_le, ii_eq, ii_nat, ib_t, ni_lt_ii, ni_le_ii, ii_lt_ni, ii_le_ni, ni_eq_ii, ii_eq_ni, ni_eq_ni, if_pos, if_neg, if_true, if_false, eq_self, and_self, not_true_eq_false, not_false_eq_true, bd_s, up_same, up_ne, ud_same, ud_ne]
    rw [h9]
    simp (disch := omega) only [ii_lt, if_neg]
    rw [m_sv37 hT g hi hn (by omega) (by omega)]
    exact m_sv24 h9 hT g hi hn hN j (p + 1) m (by omega) (by omega)
theorem m_sv12 {z : ql_Z} {i : Nat} (h9 : z.1 9 i = ii n) (hT : m_tab (z.1 13) i n T) (g : pw_g n T) (hi : i < 4) (hn : n ≤ 16) (hN : 1000 ≤ N) :
    ∀ j r m (R V : Int32), r + j = n + 1 → j + 1 ≤ m → f_X11_surveys_12 N m (sv_s z R V) (ii i) (ii r) = some (sv_s z (ri T n j R) (vi T n j V))
  | 0, r, m, R, V, hp, hm => by
    obtain ⟨m, rfl⟩ : ∃ j, m = j + 1 := ⟨m - 1, by omega⟩
    rw [f_X11_surveys_12]
    simp (disch := omega) only [lk_0, lk_1, lk_2, lk_3, lk_4, lk_5, lk_6, lk_7, lk_8, lk_9, lk_10, lk_11, lk_12, lk_13, lk_14, lk_15, lk_16, lk_17, lk_18, lk_19, lk_20, lk_21, lk_22, lk_23, lk_24, lk_25, lk_26, lk_31, lk_32, lk_68, lk_97, lk_100, lk_122, lk_200, lk_255, lk_299, lk_300, lk_301, lk_310, lk_324, lk_400, lk_800, lk_1000, lk_1600, lk_2000, lk_10000, ii_add, ii_mul, ii_lt, ii_le, ii_eq, ii_nat, ib_t, ni_lt_ii, ni_le_ii, ii_lt_ni, ii_le_ni, ni_eq_ii, ii_eq_ni, ni_eq_ni, if_pos, if_neg, if_true, if_false, eq_self, and_self, not_true_eq_false, not_false_eq_true, bd_s, up_same, up_ne, ud_same, ud_ne]
    rw [h9]
    simp (disch := omega) only [lk_0, lk_1, lk_2, lk_3, lk_4, lk_5, lk_6, lk_7, lk_8, lk_9, lk_10, lk_11, lk_12, lk_13, lk_14, lk_15, lk_16, lk_17, lk_18, lk_19, lk_20, lk_21, lk_22, lk_23, lk_24, lk_25, lk_26, lk_31, lk_32, lk_68, lk_97, lk_100, lk_122, lk_200, lk_255, lk_299, lk_300, lk_301, lk_310, lk_324, lk_400, lk_800, lk_1000, lk_1600, lk_2000, lk_10000, ii_add, ii_mul, ii_lt, ii_le, ii_eq, ii_nat, ib_t, ni_lt_ii, ni_le_ii, ii_lt_ni, ii_le_ni, ni_eq_ii, ii_eq_ni, ni_eq_ni, if_pos, if_neg, if_true, if_false, eq_self, and_self, not_true_eq_false, not_false_eq_true, bd_s, up_same, up_ne, ud_same, ud_ne]
    rfl
  | j + 1, r, m, R, V, hp, hm => by
    obtain ⟨m, rfl⟩ : ∃ j, m = j + 1 := ⟨m - 1, by omega⟩
    rw [f_X11_surveys_12]
    simp (disch := omega) only [lk_0, lk_1, lk_2, lk_3, lk_4, lk_5, lk_6, lk_7, lk_8, lk_9, lk_10, lk_11, lk_12, lk_13, lk_14, lk_15, lk_16, lk_17, lk_18, lk_19, lk_20, lk_21, lk_22, lk_23, lk_24, lk_25, lk_26, lk_31, lk_32, lk_68, lk_97, lk_100, lk_122, lk_200, lk_255, lk_299, lk_300, lk_301, lk_310, lk_324, lk_400, lk_800, lk_1000, lk_1600, lk_2000, lk_10000, ii_add, ii_mul, ii_lt, ii_le, ii_eq, ii_nat, ib_t, ni_lt_ii, ni_le_ii, ii_lt_ni, ii_le_ni, ni_eq_ii, ii_eq_ni, ni_eq_ni, if_pos, if_neg, if_true, if_false, eq_self, and_self, not_true_eq_false, not_false_eq_true, bd_s, up_same, up_ne, ud_same, ud_ne]
    rw [h9]
    simp (disch := omega) only [ii_lt, if_neg]
    have q := m_sv24 (N := N) (R := R) (V := V) (x2 := ii r) (k12 := f_X11_surveys_12 N m) h9 hT g hi hn hN (n + 1) 0 N (by omega) (by omega)
    rw [show rr T 0 R = R from rfl, show vr T 0 V = V from rfl] at q
    rw [q, lk_1, ii_add]
    exact m_sv12 h9 hT g hi hn hN j (r + 1) m _ _ (by omega) (by omega)
theorem m_surveys {z : ql_Z} {i : Nat} (h9 : z.1 9 i = ii n) (hT : m_tab (z.1 13) i n T) (g : pw_g n T) (hi : i < 4) (hn : n ≤ 16) (hN : 1000 ≤ N) :
    f_X11_surveys N z (ii i) = some (sv_s z (ri T n (n + 1) (ii 1)) (vi T n (n + 1) (ii 0))) := by
  unfold f_X11_surveys f_X11_surveys_0
  rw [lk_1, lk_0]
  exact m_sv12 h9 hT g hi hn hN (n + 1) 0 N _ _ (by omega) (by omega)
end
