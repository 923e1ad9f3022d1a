/-! many -/
theorem nl0 {k : Nat} (h : k < 2147483648) : ¬ ii k < (0 : Int32) := fun x => absurd ((ii_lt (b := 0) h (by omega)).mp x) (by omega)
theorem le_y {a : Nat} (b : Nat) (h : a ≤ b) (hb : b < 2147483648) : ii a ≤ ii b := (ii_le (by omega) hb).mpr h
theorem le_n {a : Nat} (b : Nat) (h : b < a) (ha : a < 2147483648) : ¬ ii a ≤ ii b := fun x => absurd ((ii_le ha (by omega)).mp x) (by omega)
theorem lt_y {a : Nat} (b : Nat) (h : a < b) (hb : b < 2147483648) : ii a < ii b := (ii_lt (by omega) hb).mpr h
theorem lt_n {a : Nat} (b : Nat) (h : b ≤ a) (ha : a < 2147483648) : ¬ ii a < ii b := fun x => absurd ((ii_lt ha (by omega)).mp x) (by omega)
def sm (f : Nat → Int64) : Int64 := 0 + f 0 + f 1 + f 2 + f 3
def w0 (T : pw_T) (p a : Nat) : Int64 := if T p a = some 0 then 1 else 0
def wl (T : pw_T) (F : Nat → Int64) (p a : Nat) : Int64 := match T p a with
  | some (v + 1) => F (v + 1)
  | _ => 0
def wy (T : pw_T) : Nat → Nat → Int64
  | 0, p => sm (w0 T p)
  | k + 1, p => sm (wl T (wy T k) p)
theorem wl_c {n p a : Nat} {T : pw_T} {F F' : Nat → Int64} (g : pw_g n T) (hp : p ≤ n) (ha : a < 4) (h : ∀ q, q ≤ n → F q = F' q) : wl T F p a = wl T F' p a := by
  unfold wl
  cases e : T p a with
  | none => rfl
  | some v => cases v with
    | zero => rfl
    | succ v => exact h _ (g p a _ hp ha e)
theorem sm_c {f f' : Nat → Int64} (h : ∀ a, a < 4 → f a = f' a) : sm f = sm f' := by
  unfold sm; rw [h 0 (by omega), h 1 (by omega), h 2 (by omega), h 3 (by omega)]
theorem uq_w {S : ql_Lt} {k l : Nat} (h : k ≠ l) (f g f' : Nat → Int64) : ql_uq (ql_uq (ql_uq S k f) l g) k f' = ql_uq (ql_uq S k f') l g := by
  funext j
  by_cases e : j = l
  · subst e; rw [uq_ne (fun x => h x.symm), uq_same, uq_same]
  · by_cases e' : j = k
    · subst e'; rw [uq_same, uq_ne e, uq_same]
    · rw [uq_ne e', uq_ne e, uq_ne e', uq_ne e, uq_ne e']
theorem uq_self (S : ql_Lt) (k : Nat) : ql_uq S k (S k) = S := by
  funext j; by_cases h : j = k
  · subst h; rw [uq_same]
  · rw [uq_ne h]
section
variable {N n : Nat} {T : pw_T} {P : Nat → ql_St} {v : ql_V} {z : ql_Z}
abbrev ws (v : ql_V) (F G : Nat → Int64) : ql_V := (v.1, ql_uq (ql_uq v.2.1 10 F) 11 G, v.2.2.1, v.2.2.2.1, v.2.2.2.2.1, v.2.2.2.2.2)
theorem c_end4 {s : ql_St} {p : Nat} (hN : 1000 ≤ N) (hT : c_tab s n T) (g : pw_g n T) (hn : n ≤ 16) (hp : p ≤ n) : ∃ u, f_X6_endings N s (ii p) = some u ∧ u.toInt64 = sm (w0 T p) := by
  unfold f_X6_endings f_X6_endings_0
  have st : ∀ a m x, a < 4 → f_X6_endings_4 N s (m + 1) (ii p) (ii x) (ii a) = f_X6_endings_4 N s m (ii p) (ii (x + if T p a = some 0 then 1 else 0)) (ii (a + 1)) := fun a m x ha => by
    rw [f_X6_endings_4, lk_4, lk_0, lk_1]
    refine sn (by rw [ii_le (by omega) (by omega)]; omega) (sb (c_goes hT hn hp ha) ?_)
    unfold f_X6_endings_24
    rw [lk_1, ii_add, ii_add, ii_add]
    have e := ec_0 (o := T p a) (n := n) (by omega) (fun v hv => g p a v hp ha hv)
    by_cases q : T p a = some 0
    · rw [if_pos (e.mpr q), if_pos q]
    · rw [if_neg (fun x => q (e.mp x)), if_neg q]
  obtain ⟨j, hj⟩ : ∃ j, N = j + 5 := ⟨N - 5, by omega⟩
  have en : f_X6_endings_4 N s N (ii p) 0 0 = f_X6_endings_4 N s (j + 5) (ii p) (ii 0) (ii 0) := by rw [← hj]; rfl
  refine ⟨ii (0 + (if T p 0 = some 0 then 1 else 0) + (if T p 1 = some 0 then 1 else 0) + (if T p 2 = some 0 then 1 else 0) + (if T p 3 = some 0 then 1 else 0)), ?_, ?_⟩
  · rw [en, st 0 _ _ (by omega), st 1 _ _ (by omega), st 2 _ _ (by omega), st 3 _ _ (by omega), f_X6_endings_4, lk_4]
    exact sp (by rw [ii_le (by omega) (by omega)]; omega) rfl
  · have b : ∀ a, (if T p a = some 0 then 1 else 0) ≤ 1 := fun a => by
      by_cases q : T p a = some 0
      · rw [if_pos q]; omega
      · rw [if_neg q]; omega
    have b0 := b 0
    have b1 := b 1
    have b2 := b 2
    have b3 := b 3
    have e : ∀ a, w0 T p a = ll (if T p a = some 0 then 1 else 0) := fun a => by
      unfold w0
      by_cases q : T p a = some 0
      · rw [if_pos q, if_pos q]; rfl
      · rw [if_neg q, if_neg q]; rfl
    rw [ii_ll (by omega)]
    unfold sm
    rw [e, e, e, e, ll_0, ll_add, ll_add, ll_add, ll_add]
theorem c_mn31 {i : Nat} {x2 : Int32} {G : Nat → Int64} (hN : 1000 ≤ N) (h6 : P i 6 0 = ii n) (hT : c_tab (P i) n T) (g : pw_g n T) (hn : n ≤ 16) : ∀ j p m F, p + j = n + 1 → j + 1 ≤ m → (∀ q, q < p → F q = wy T 0 q) →
    ∃ F', (∀ q, q ≤ n → F' q = wy T 0 q) ∧ f_X10_many_31 N P m (ws v F G) x2 i (ii p) = f_X10_many_63 N P N (ws v F' G) x2 i (ii 1) := by
  intro j
  induction j with
  | zero =>
    intro p m F hp hm hF
    obtain ⟨m, rfl⟩ : ∃ j, m = j + 1 := ⟨m - 1, by omega⟩
    refine ⟨F, fun q hq => hF q (by omega), ?_⟩
    rw [f_X10_many_31, h6]
    exact sp (by rw [ii_lt (by omega) (by omega)]; omega) rfl
  | succ j ih =>
    intro p m F hp hm hF
    obtain ⟨m, rfl⟩ : ∃ j, m = j + 1 := ⟨m - 1, by omega⟩
    obtain ⟨u, e1, e2⟩ := c_end4 (N := N) hN hT g hn (show p ≤ n by omega)
    obtain ⟨F', h1, h2⟩ := ih (p + 1) m (vp_updL F p u.toInt64) (by omega) (by omega) (fun q hq => by
      by_cases e : q = p
      · subst e; rw [ul_same]; exact e2
      · rw [ul_ne e]; exact hF q (by omega))
    refine ⟨F', h1, ?_⟩
    rw [f_X10_many_31, h6, ← h2]
    refine sn (by rw [ii_lt (by omega) (by omega)]; omega) (sb e1 (sp (ii_ib (by omega) (by omega)) ?_))
    rw [ii_nat (by omega), lk_1, ii_add]
    show f_X10_many_31 N P m (v.1, ql_uq (ql_uq (ql_uq v.2.1 10 F) 11 G) 10 (vp_updL ((ql_uq (ql_uq v.2.1 10 F) 11 G) 10) p u.toInt64), _, _, _, _) x2 i (ii (p + 1)) = _
    rw [uq_w (by decide), uq_ne (by decide), uq_same]
theorem c_lw15 {i p : Nat} {F G : Nat → Int64} {k2 : ql_V → Nat → Int32 → Option ql_V} (hN : 1000 ≤ N) (hT : c_tab (P i) n T) (g : pw_g n T) (hn : n ≤ 16) (hp : p ≤ n) :
    f_X10_lengthenWays_15 N P k2 N (ws v F G) i (ii p) 0 0 = k2 (ws v F (vp_updL G p (sm (wl T F p)))) i (ii (p + 1)) := by
  have st : ∀ a m x, a < 4 → f_X10_lengthenWays_15 N P k2 (m + 1) (ws v F G) i (ii p) x (ii a) = f_X10_lengthenWays_15 N P k2 m (ws v F G) i (ii p) (x + wl T F p a) (ii (a + 1)) := fun a m x ha => by
    rw [f_X10_lengthenWays_15, lk_4, lk_0]
    refine sn (by rw [ii_le (by omega) (by omega)]; omega) (sb (c_goes hT hn hp ha) ?_)
    have hv := g p a
    unfold f_X10_lengthenWays_51 wl
    rw [lk_1, ii_add]
    cases e : T p a with
    | none =>
      simp only [ec]
      exact sb c_isp9 (sp rfl rfl)
    | some u => cases u with
      | zero => simp only [ec]; exact sb c_isp0 (sp rfl rfl)
      | succ u =>
        have := hv _ hp ha e
        simp only [ec]
        refine sb (c_isp hT.2 hn (by omega) this) (sn n10 (sp (ii_ib (by omega) (by omega)) ?_))
        rw [ii_nat (by omega)]
        show f_X10_lengthenWays_15 N P k2 m (ws v F G) i (ii p) (x + (ql_uq (ql_uq v.2.1 10 F) 11 G) 10 (u + 1)) (ii (a + 1)) = _
        rw [uq_ne (by decide), uq_same]
  obtain ⟨j, hj⟩ : ∃ j, N = j + 5 := ⟨N - 5, by omega⟩
  have en : f_X10_lengthenWays_15 N P k2 N (ws v F G) i (ii p) 0 0 = f_X10_lengthenWays_15 N P k2 (j + 5) (ws v F G) i (ii p) 0 (ii 0) := by rw [← hj]; rfl
  rw [en, st 0 _ _ (by omega), st 1 _ _ (by omega), st 2 _ _ (by omega), st 3 _ _ (by omega), f_X10_lengthenWays_15, lk_4, lk_1, ii_add]
  refine sp (by rw [ii_le (by omega) (by omega)]; omega) (sp (ii_ib (by omega) (by omega)) ?_)
  rw [ii_nat (by omega)]
  show k2 (v.1, ql_uq (ql_uq (ql_uq v.2.1 10 F) 11 G) 11 (vp_updL ((ql_uq (ql_uq v.2.1 10 F) 11 G) 11) p _), _, _, _, _) i (ii (p + 1)) = _
  rw [uq_uq, uq_same]; rfl
theorem c_lw2 {i : Nat} {F : Nat → Int64} (hN : 1000 ≤ N) (h6 : P i 6 0 = ii n) (hT : c_tab (P i) n T) (g : pw_g n T) (hn : n ≤ 16) : ∀ j p m G, p + j = n + 1 → j + 1 ≤ m → (∀ q, q < p → G q = sm (wl T F q)) →
    ∃ F' G', (∀ q, q ≤ n → F' q = sm (wl T F q)) ∧ f_X10_lengthenWays_2 N P m (ws v F G) i (ii p) = some (ws v F' G') := by
  intro j
  induction j with
  | zero =>
    intro p m G hp hm hG
    obtain ⟨m, rfl⟩ : ∃ j, m = j + 1 := ⟨m - 1, by omega⟩
    refine ⟨va_cpy G F 0 0 (n + 1), G, fun q hq => ?_, ?_⟩
    · show (if 0 ≤ q ∧ q < 0 + (n + 1) then G (0 + (q - 0)) else F q) = _
      rw [if_pos ⟨by omega, by omega⟩, show 0 + (q - 0) = q by omega]
      exact hG q (by omega)
    · rw [f_X10_lengthenWays_2, h6, lk_1, ii_add]
      have ig : ql_ig (ii (n + 1)) 17 = true := by
        have h0 : ¬ (ii (n + 1) < ii 0) := by rw [ii_lt (by omega) (by omega)]; omega
        have h0 : ¬ (ii (n + 1) < 0) := h0
        unfold ql_ig
        rw [ii_nat (by omega), decide_eq_false h0, decide_eq_true (show n + 1 ≤ 17 by omega)]; rfl
      refine sp (by rw [ii_lt (by omega) (by omega)]; omega) (sp ig ?_)
      rw [ii_nat (by omega)]
      show some (v.1, ql_uq (ql_uq (ql_uq v.2.1 10 F) 11 G) 10 (va_cpy ((ql_uq (ql_uq v.2.1 10 F) 11 G) 11) ((ql_uq (ql_uq v.2.1 10 F) 11 G) 10) 0 0 (n + 1)), _, _, _, _) = _
      rw [uq_w (by decide), uq_same, uq_ne (by decide), uq_same]
  | succ j ih =>
    intro p m G hp hm hG
    obtain ⟨m, rfl⟩ : ∃ j, m = j + 1 := ⟨m - 1, by omega⟩
    obtain ⟨F', G', h1, h2⟩ := ih (p + 1) m (vp_updL G p (sm (wl T F p))) (by omega) (by omega) (fun q hq => by
      by_cases e : q = p
      · subst e; rw [ul_same]
      · rw [ul_ne e]; exact hG q (by omega))
    refine ⟨F', G', h1, ?_⟩
    rw [f_X10_lengthenWays_2, h6, ← h2]
    refine sn (by rw [ii_lt (by omega) (by omega)]; omega) ?_
    exact c_lw15 hN hT g hn (by omega)
theorem c_mn63 {i t : Nat} (hN : 1000 ≤ N) (h6 : P i 6 0 = ii n) (hT : c_tab (P i) n T) (g : pw_g n T) (hn : n ≤ 16) (ht : t ≤ 14) : ∀ j k m F G, k + j = t → j + 1 ≤ m → (∀ q, q ≤ n → F q = wy T k q) →
    ∃ v', fc v v' ∧ f_X10_many_63 N P m (ws v F G) (ii t) i (ii (k + 1)) = some (wy T t 0, v') := by
  intro j
  induction j with
  | zero =>
    intro k m F G hk hm hF
    obtain ⟨m, rfl⟩ : ∃ j, m = j + 1 := ⟨m - 1, by omega⟩
    obtain rfl : k = t := by omega
    refine ⟨ws v F G, ⟨rfl, rfl, rfl⟩, ?_⟩
    rw [f_X10_many_63]
    refine sp (by rw [ii_lt (by omega) (by omega)]; omega) ?_
    show some ((ql_uq (ql_uq v.2.1 10 F) 11 G) 10 0, ws v F G) = _
    rw [uq_ne (by decide), uq_same, hF 0 (Nat.zero_le _)]
  | succ j ih =>
    intro k m F G hk hm hF
    obtain ⟨m, rfl⟩ : ∃ j, m = j + 1 := ⟨m - 1, by omega⟩
    obtain ⟨F', G', h1, h2⟩ := c_lw2 (N := N) (v := v) (F := F) hN h6 hT g hn (n + 1) 0 N G (by omega) (by omega) (fun q hq => by omega)
    obtain ⟨v', h3, h4⟩ := ih (k + 1) m F' G' (by omega) (by omega) (fun q hq => by
      rw [h1 q hq]
      exact sm_c fun a ha => wl_c g hq ha hF)
    refine ⟨v', h3, ?_⟩
    rw [f_X10_many_63]
    refine sn (by rw [ii_lt (by omega) (by omega)]; omega) (sb (a := ws v F' G') ?_ ?_)
    · unfold f_X10_lengthenWays f_X10_lengthenWays_0
      exact h2
    · rw [lk_1, ii_add]; exact h4
/-! the reference's many -/
abbrev ms (z : ql_Z) (F G : Nat → Int64) : ql_Z := (z.1, ql_uq (ql_uq z.2 37 F) 38 G)
def wk (T : pw_T) (G : Nat → Int64) (k p a : Nat) : Int64 := if k = 0 then w0 T p a else wl T G p a
theorem m_mn85 {i p k : Nat} {F G : Nat → Int64} {x2 : Int32} {k25 : ql_Z → Int32 → Int32 → Int32 → Option (Int64 × ql_Z)} {k63 : ql_Z → Int32 → Int32 → Int32 → Int32 → Option (Int64 × ql_Z)} (hN : 1000 ≤ N) (hT : m_tab (z.1 13) i n T) (g : pw_g n T) (hn : n ≤ 16) (hi : i < 4) (hk : k < 1000) (hp : p ≤ n) (h0 : F p = 0) :
    ∃ F', (∀ q, q ≠ p → F' q = F q) ∧ F' p = sm (wk T G k p) ∧ f_X11_many_85 N k25 k63 N (ms z F G) (ii i) x2 (ii k) (ii p) 0 = k63 (ms z F' G) (ii i) x2 (ii k) (ii (p + 1)) := by
  have st : ∀ a m F, a < 4 → f_X11_many_85 N k25 k63 (m + 1) (ms z F G) (ii i) x2 (ii k) (ii p) (ii a) = f_X11_many_85 N k25 k63 m (ms z (vp_updL F p (F p + wk T G k p a)) G) (ii i) x2 (ii k) (ii p) (ii (a + 1)) := fun a m F ha => by
    rw [f_X11_many_85, lk_4, lk_0]
    refine sn (by rw [ii_le (by omega) (by omega)]; omega) (sb (m_to hT hi hn hp ha) (sp (ii_ib (by omega) (by omega)) ?_))
    have hv := g p a
    have e37 : (ms z F G).2 37 (ii p).toNatClampNeg = F p := by
      rw [ii_nat (by omega)]
      show (ql_uq (ql_uq z.2 37 F) 38 G) 37 p = F p
      rw [uq_ne (by decide), uq_same]
    have e143 : ∀ y0 : Int64, f_X11_many_143 N k25 k63 (f_X11_many_85 N k25 k63 m) (ms z F G) (ii i) x2 (ii k) (ii p) (ii a) y0 (F p) (ii p) = f_X11_many_85 N k25 k63 m (ms z (vp_updL F p (F p + y0)) G) (ii i) x2 (ii k) (ii p) (ii (a + 1)) := fun y0 => by
      unfold f_X11_many_143
      rw [lk_1, ii_add, ii_nat (show p < 2147483648 by omega)]
      refine sp (ii_ib (by omega) (by omega)) ?_
      show f_X11_many_85 N k25 k63 m (z.1, ql_uq (ql_uq (ql_uq z.2 37 F) 38 G) 37 (vp_updL ((ql_uq (ql_uq z.2 37 F) 38 G) 37) p (F p + y0))) _ _ _ _ _ = _
      rw [uq_w (by decide), uq_ne (by decide), uq_same]
    rw [e37]
    unfold f_X11_many_123 f_X11_many_142
    rw [lk_0, e143, e143]
    unfold wk w0 wl
    have k0 : ii k = ii 0 ↔ k = 0 := ii_eq (by omega) (by omega)
    have k1 : ii k ≤ ii 0 ↔ k = 0 := by rw [ii_le (by omega) (by omega)]; omega
    cases e : T p a with
    | none =>
      simp only [em]
      refine sn (by rw [ni_eq_ii (by omega) (by omega)]; omega) (sp ((ni_le_ii (by omega) (by omega)).mpr trivial) ?_)
      by_cases q : k = 0
      · rw [if_pos q, if_neg (by intro x; cases x)]
      · rw [if_neg q]
    | some u => cases u with
      | zero =>
        simp only [em]
        refine sp trivial ?_
        by_cases q : k = 0
        · rw [if_pos (k0.mpr q), if_pos q, if_pos trivial]
        · rw [if_neg (fun x => q (k0.mp x)), if_neg q]; exact sp (zk (by omega)) rfl
      | succ u =>
        have hu := hv _ hp ha e
        simp only [em]
        refine sn (by rw [ii_eq (by omega) (by omega)]; omega) (sn (by rw [ii_le (by omega) (by omega)]; omega) ?_)
        by_cases q : k = 0
        · rw [if_pos (k1.mpr q), if_pos q, if_neg (by intro x; injection x with x; omega)]
        · rw [if_neg (fun x => q (k1.mp x)), if_neg q, ii_nat (by omega), e143]
          refine sp (ii_ib (by omega) (by omega)) ?_
          show f_X11_many_85 N k25 k63 m (ms z (vp_updL F p (F p + (ql_uq (ql_uq z.2 37 F) 38 G) 38 (u + 1))) G) _ _ _ _ _ = _
          rw [uq_same]
  obtain ⟨j, hj⟩ : ∃ j, N = j + 5 := ⟨N - 5, by omega⟩
  have en : f_X11_many_85 N k25 k63 N (ms z F G) (ii i) x2 (ii k) (ii p) 0 = f_X11_many_85 N k25 k63 (j + 5) (ms z F G) (ii i) x2 (ii k) (ii p) (ii 0) := by rw [← hj]; rfl
  refine ⟨vp_updL (vp_updL (vp_updL (vp_updL F p (F p + wk T G k p 0)) p (vp_updL F p (F p + wk T G k p 0) p + wk T G k p 1)) p (vp_updL (vp_updL F p (F p + wk T G k p 0)) p (vp_updL F p (F p + wk T G k p 0) p + wk T G k p 1) p + wk T G k p 2)) p (vp_updL (vp_updL (vp_updL F p (F p + wk T G k p 0)) p (vp_updL F p (F p + wk T G k p 0) p + wk T G k p 1)) p (vp_updL (vp_updL F p (F p + wk T G k p 0)) p (vp_updL F p (F p + wk T G k p 0) p + wk T G k p 1) p + wk T G k p 2) p + wk T G k p 3), ?_, ?_, ?_⟩
  · intro q hq
    rw [ul_ne hq, ul_ne hq, ul_ne hq, ul_ne hq]
  · rw [ul_same, ul_same, ul_same, ul_same, h0]; rfl
  · rw [en, st 0 _ _ (by omega), st 1 _ _ (by omega), st 2 _ _ (by omega), st 3 _ _ (by omega), f_X11_many_85, lk_4, lk_1, ii_add]
    exact sp (by rw [ii_le (by omega) (by omega)]; omega) rfl
theorem m_mn63 {i k : Nat} {G : Nat → Int64} {x2 : Int32} {k25 : ql_Z → Int32 → Int32 → Int32 → Option (Int64 × ql_Z)} (hN : 1000 ≤ N) (h9 : z.1 9 i = ii n) (hT : m_tab (z.1 13) i n T) (g : pw_g n T) (hn : n ≤ 16) (hi : i < 4) (hk : k < 1000) : ∀ j p m F, p + j = n + 1 → j + 1 ≤ m → (∀ q, q < p → F q = sm (wk T G k q)) →
    ∃ F', (∀ q, q ≤ n → F' q = sm (wk T G k q)) ∧ f_X11_many_63 N k25 m (ms z F G) (ii i) x2 (ii k) (ii p) = k25 (ms z F' G) (ii i) x2 (ii (k + 1)) := by
  intro j
  induction j with
  | zero =>
    intro p m F hp hm hF
    obtain ⟨m, rfl⟩ : ∃ j, m = j + 1 := ⟨m - 1, by omega⟩
    refine ⟨F, fun q hq => hF q (by omega), ?_⟩
    rw [f_X11_many_63, ii_nat (show i < 2147483648 by omega), lk_1, ii_add]
    refine sp (ii_ib (by omega) (by omega)) (sp ?_ rfl)
    show z.1 9 i < ii p
    rw [h9, ii_lt (by omega) (by omega)]; omega
  | succ j ih =>
    intro p m F hp hm hF
    obtain ⟨m, rfl⟩ : ∃ j, m = j + 1 := ⟨m - 1, by omega⟩
    obtain ⟨F1, a1, a2, a3⟩ := m_mn85 (N := N) (F := vp_updL F p 0) (G := G) (x2 := x2) (k25 := k25) (k63 := f_X11_many_63 N k25 m) hN hT g hn hi hk (show p ≤ n by omega) (ul_same _ _ _)
    obtain ⟨F', h1, h2⟩ := ih (p + 1) m F1 (by omega) (by omega) (fun q hq => by
      by_cases e : q = p
      · subst e; exact a2
      · rw [a1 q e, ul_ne e]; exact hF q (by omega))
    refine ⟨F', h1, ?_⟩
    rw [f_X11_many_63, ii_nat (show i < 2147483648 by omega), ii_nat (show p < 2147483648 by omega), ← h2, ← a3]
    refine sp (ii_ib (by omega) (by omega)) (sn ?_ (sp (ii_ib (by omega) (by omega)) ?_))
    · show ¬ z.1 9 i < ii p
      rw [h9, ii_lt (by omega) (by omega)]; omega
    · show f_X11_many_85 N k25 _ N (z.1, ql_uq (ql_uq (ql_uq z.2 37 F) 38 G) 37 (vp_updL ((ql_uq (ql_uq z.2 37 F) 38 G) 37) p 0)) _ _ _ _ _ = _
      rw [uq_w (by decide), uq_ne (by decide), uq_same]
theorem m_mn33 {i : Nat} {F : Nat → Int64} {x2 x3 : Int32} {k25 : ql_Z → Int32 → Int32 → Int32 → Option (Int64 × ql_Z)} : ∀ j p m G, p + j = 17 → j + 1 ≤ m → (∀ q, q < p → G q = F q) →
    ∃ G', (∀ q, q < 17 → G' q = F q) ∧ f_X11_many_33 N k25 m (ms z F G) (ii i) x2 x3 (ii p) = f_X11_many_63 N k25 N (ms z F G') (ii i) x2 x3 (ii 0) := by
  intro j
  induction j with
  | zero =>
    intro p m G hp hm hG
    obtain ⟨m, rfl⟩ : ∃ j, m = j + 1 := ⟨m - 1, by omega⟩
    obtain rfl : p = 17 := by omega
    refine ⟨G, hG, ?_⟩
    rw [f_X11_many_33, lk_17, lk_0]
    exact sp (by rw [ii_le (by omega) (by omega)]; omega) rfl
  | succ j ih =>
    intro p m G hp hm hG
    obtain ⟨m, rfl⟩ : ∃ j, m = j + 1 := ⟨m - 1, by omega⟩
    obtain ⟨G', h1, h2⟩ := ih (p + 1) m (vp_updL G p (F p)) (by omega) (by omega) (fun q hq => by
      by_cases e : q = p
      · subst e; rw [ul_same]
      · rw [ul_ne e]; exact hG q (by omega))
    refine ⟨G', h1, ?_⟩
    rw [f_X11_many_33, lk_17, lk_1, ii_add, ii_nat (show p < 2147483648 by omega), ← h2]
    refine sn (by rw [ii_le (by omega) (by omega)]; omega) (sp (ii_ib (by omega) (by omega)) (sp (ii_ib (by omega) (by omega)) ?_))
    show f_X11_many_33 N k25 m (z.1, ql_uq (ql_uq (ql_uq z.2 37 F) 38 G) 38 (vp_updL ((ql_uq (ql_uq z.2 37 F) 38 G) 38) p ((ql_uq (ql_uq z.2 37 F) 38 G) 37 p))) _ _ _ _ = _
    rw [uq_uq, uq_same, uq_ne (by decide), uq_same]
theorem m_mn25 {i t : Nat} (hN : 1000 ≤ N) (h9 : z.1 9 i = ii n) (hT : m_tab (z.1 13) i n T) (g : pw_g n T) (hn : n ≤ 16) (hi : i < 4) (ht : t ≤ 14) : ∀ j k m F G, k + j = t + 1 → j + 1 ≤ m → (0 < k → ∀ q, q ≤ n → F q = wy T (k - 1) q) →
    ∃ z', fr z z' ∧ f_X11_many_25 N m (ms z F G) (ii i) (ii t) (ii k) = some (wy T t 0, z') := by
  intro j
  induction j with
  | zero =>
    intro k m F G hk hm hF
    obtain ⟨m, rfl⟩ : ∃ j, m = j + 1 := ⟨m - 1, by omega⟩
    obtain rfl : k = t + 1 := by omega
    refine ⟨ms z F G, ⟨fun _ _ => rfl, rfl⟩, ?_⟩
    rw [f_X11_many_25]
    refine sp (by rw [ii_lt (by omega) (by omega)]; omega) ?_
    show some ((ql_uq (ql_uq z.2 37 F) 38 G) 37 0, ms z F G) = _
    rw [uq_ne (by decide), uq_same, hF (by omega) 0 (Nat.zero_le _)]; rfl
  | succ j ih =>
    intro k m F G hk hm hF
    obtain ⟨m, rfl⟩ : ∃ j, m = j + 1 := ⟨m - 1, by omega⟩
    obtain ⟨G', h1, h2⟩ := m_mn33 (N := N) (z := z) (i := i) (F := F) (x2 := ii t) (x3 := ii k) (k25 := f_X11_many_25 N m) 17 0 N G (by omega) (by omega) (fun q hq => by omega)
    obtain ⟨F', h3, h4⟩ := m_mn63 (N := N) (G := G') (x2 := ii t) (k25 := f_X11_many_25 N m) hN h9 hT g hn hi (show k < 1000 by omega) (n + 1) 0 N F (by omega) (by omega) (fun q hq => by omega)
    obtain ⟨z', h5, h6⟩ := ih (k + 1) m F' G' (by omega) (by omega) (fun _ q hq => by
      rw [h3 q hq, show k + 1 - 1 = k by omega]
      cases k with
      | zero => exact sm_c fun a ha => by unfold wk; rw [if_pos rfl]
      | succ k =>
        refine sm_c fun a ha => ?_
        unfold wk
        rw [if_neg (by omega)]
        exact wl_c g hq ha (fun q hq => by rw [h1 q (by omega)]; exact hF (by omega) q hq))
    refine ⟨z', h5, ?_⟩
    rw [f_X11_many_25]
    refine sn (by rw [ii_lt (by omega) (by omega)]; omega) ?_
    rw [lk_0, h2, h4, h6]
theorem e_many (hN : 1000 ≤ N) (R : pga P z.1) (x1 x2 : Int32) : ∃ r v' z', f_X10_many N P v x1 x2 = some (r, v') ∧ f_X11_many N z x1 x2 = some (r, z') ∧ fc v v' ∧ fr z z' := by
  unfold f_X10_many f_X10_many_0 f_X11_many f_X11_many_0 f_X10_many_17 f_X11_many_19
  rw [lo_14]
  rcases ip_cases N x1 with ⟨i, hi, rfl, c1, m1⟩ | ⟨c1, m1⟩
  · rcases m_rng N x2 14 (by omega) with ⟨t, ht, rfl, q⟩ | ⟨hx, q⟩
    · obtain ⟨n, T, A, ok, h6, hT, hA, _, _, h9, mT, mA⟩ := R i hi
      have g := ok.2.1
      have hn := ok.1
      have ev : ws v (v.2.1 10) (v.2.1 11) = v := by
        show (v.1, ql_uq (ql_uq v.2.1 10 (v.2.1 10)) 11 (v.2.1 11), _) = v
        rw [uq_self, uq_self]
      have ez : ms z (z.2 37) (z.2 38) = z := by
        show (z.1, ql_uq (ql_uq z.2 37 (z.2 37)) 38 (z.2 38)) = z
        rw [uq_self, uq_self]
      obtain ⟨F', a1, a2⟩ := c_mn31 (N := N) (v := v) (x2 := ii t) (G := v.2.1 11) hN h6 hT g hn (n + 1) 0 N (v.2.1 10) (by omega) (by omega) (fun q hq => by omega)
      obtain ⟨v', b1, b2⟩ := c_mn63 (N := N) (v := v) hN h6 hT g hn ht t 0 N F' (v.2.1 11) (by omega) (by omega) a1
      obtain ⟨z', d1, d2⟩ := m_mn25 (N := N) (z := z) hN h9 mT g hn hi ht (t + 1) 0 N (z.2 37) (z.2 38) (by omega) (by omega) (fun h => by omega)
      rw [ev] at a2
      rw [ez] at d2
      refine ⟨wy T t 0, v', z', sb c1 (sn n10 (sn (nl0 (by omega)) (sp (le_y 14 ht (by omega)) (sp (ii_ib (by omega) (by omega)) ?_)))), sb m1 (sn n10 (sb q (sn n10 d2))), b1, d1⟩
      · rw [ii_nat (by omega), lk_0, a2]
        exact b2
    · refine ⟨-1, v, z, ?_, sb m1 (sn n10 (sb q (sp rfl rfl))), fc_r v, fr_r z⟩
      rcases hx with hx | ⟨k, hk, hk', rfl⟩
      · exact sb c1 (sn n10 (sp hx rfl))
      · exact sb c1 (sn n10 (sn (nl0 hk') (sn (le_n 14 hk hk') rfl)))
  · exact ⟨-1, v, z, sb c1 (sp rfl rfl), sb m1 (sp rfl rfl), fc_r v, fr_r z⟩
end
