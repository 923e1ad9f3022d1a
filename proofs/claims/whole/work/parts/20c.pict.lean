/-! a program's picture: n places, T place atom: none STUCK, some 0 the end, some v the act's place; A: the acts -/
abbrev pw_T : Type := Nat → Nat → Option Nat
def em (o : Option Nat) : Int32 := match o with
  | none => -ii 1
  | some v => ii v
def ec (o : Option Nat) : Int32 := match o with
  | none => -ii 9
  | some v => ii v
def pw_g (n : Nat) (T : pw_T) : Prop := ∀ p a v, p ≤ n → a < 4 → T p a = some v → v ≤ n
def pw_ok (n : Nat) (T : pw_T) (A : Nat → Nat) : Prop := n ≤ 16 ∧ pw_g n T ∧ ∀ p, 1 ≤ p → p ≤ n → 1 ≤ A p ∧ A p ≤ 3
def c_tab (s : ql_St) (n : Nat) (T : pw_T) : Prop := (∀ p a, p ≤ n → a < 4 → s 7 (p * 4 + a) = ec (T p a)) ∧ s 6 0 = ii n
def c_act (f : Nat → Int32) (n : Nat) (A : Nat → Nat) : Prop := ∀ p, 1 ≤ p → p ≤ n → f p = ii (A p)
def m_tab (f : Nat → Int32) (i n : Nat) (T : pw_T) : Prop := ∀ p a, p ≤ n → a < 4 → f (68 * i + 4 * p + a) = em (T p a)
def m_act (f : Nat → Int32) (i n : Nat) (A : Nat → Nat) : Prop := ∀ p, 1 ≤ p → p ≤ n → f (17 * i + p) = ii (A p)
/-! the last atoms of rows from a place on -/
def pE (T : pw_T) (i p : Nat) : Prop := i < 4 ∧ T p i = some 0
def pR (T : pw_T) (i : Nat) : Nat → Nat → Prop
  | 0, p => pE T i p
  | k + 1, p => pE T i p ∨ ∃ a v, a < 4 ∧ T p a = some v ∧ 0 < v ∧ pR T i k v
theorem pR_s {T : pw_T} {i : Nat} : ∀ k p, pR T i k p → pR T i (k + 1) p
  | 0, _, h => Or.inl h
  | k + 1, p, h => by
    rcases h with h | ⟨a, v, ha, hT, hv, h⟩
    · exact Or.inl h
    · exact Or.inr ⟨a, v, ha, hT, hv, pR_s k v h⟩
theorem pR_stab {n i : Nat} {T : pw_T} (g : pw_g n T) : ∀ k p, p < n + 1 → pR T i k p → pR T i n p := by
  refine st_all (fun k p _ h => pR_s k p h) (fun k st p hp h => ?_) ?_
  · rcases h with h | ⟨a, v, ha, hT, hv, h⟩
    · exact Or.inl h
    · exact Or.inr ⟨a, v, ha, hT, hv, st v (Nat.lt_succ_of_le (g p a v (by omega) ha hT)) h⟩
  · by_cases h : ct (pR T i 0) (n + 1) = 0
    · refine Or.inr fun p hp q => ?_
      rcases q with q | ⟨a, v, ha, hT, hv, q⟩
      · exact q
      · exact absurd q (ct_no h (Nat.lt_succ_of_le (g p a v (by omega) ha hT)))
    · exact Or.inl (by omega)
def pD (n : Nat) (T : pw_T) (i p : Nat) : Prop := pR T i n p
theorem pD_e {n i p : Nat} {T : pw_T} (g : pw_g n T) (hp : p ≤ n) (h : pE T i p) : pD n T i p := pR_stab g 0 p (by omega) h
theorem pD_s {n i p a v : Nat} {T : pw_T} (g : pw_g n T) (hp : p ≤ n) (ha : a < 4) (hT : T p a = some v) (hv : 0 < v) (h : pD n T i v) : pD n T i p :=
  pR_stab g (n + 1) p (by omega) (Or.inr ⟨a, v, ha, hT, hv, h⟩)
def lb (T : pw_T) (L : Nat → Int32) (p a : Nat) : Int32 := match T p a with
  | none => ii 0
  | some 0 => ii 1 <<< (ii a &&& ii 31)
  | some (v + 1) => L (v + 1)
def l1 (T : pw_T) (L : Nat → Int32) (p a : Nat) : Nat → Int32 := upd L p (L p ||| lb T L p a)
def l4 (T : pw_T) (L : Nat → Int32) (p : Nat) : Nat → Int32 := l1 T (l1 T (l1 T (l1 T L p 0) p 1) p 2) p 3
def lr (T : pw_T) : Nat → (Nat → Int32) → Nat → Int32
  | 0, L => L
  | k + 1, L => l4 T (lr T k L) k
def li (T : pw_T) (n : Nat) : Nat → (Nat → Int32) → Nat → Int32
  | 0, L => L
  | r + 1, L => li T n r (lr T (n + 1) L)
def lq (L L' : Nat → Int32) : Prop := ∀ q i, bt (L q) i = true → bt (L' q) i = true
theorem lq_t {L L' L'' : Nat → Int32} (h : lq L L') (h' : lq L' L'') : lq L L'' := fun q i x => h' q i (h q i x)
theorem l1_q (T : pw_T) (L : Nat → Int32) (p a : Nat) : lq L (l1 T L p a) := fun q i h => by
  by_cases e : q = p
  · subst e; rw [l1, ud_same, bt_or, h]; rfl
  · rw [l1, ud_ne e]; exact h
theorem l1_h {T : pw_T} {L : Nat → Int32} {p a i : Nat} (h : bt (lb T L p a) i = true) : bt (l1 T L p a p) i = true := by
  rw [l1, ud_same, bt_or, h, Bool.or_true]
theorem lb_q {T : pw_T} {L L' : Nat → Int32} (h : lq L L') {p a i : Nat} (x : bt (lb T L p a) i = true) : bt (lb T L' p a) i = true := by
  unfold lb at x ⊢
  cases e : T p a with
  | none => rw [e] at x; exact x
  | some v => cases v with
    | zero => rw [e] at x; exact x
    | succ v => rw [e] at x; exact h _ _ x
theorem l4_q (T : pw_T) (L : Nat → Int32) (p : Nat) : lq L (l4 T L p) := lq_t (l1_q T L p 0) (lq_t (l1_q T _ p 1) (lq_t (l1_q T _ p 2) (l1_q T _ p 3)))
theorem l4_h {T : pw_T} {L : Nat → Int32} {p a i : Nat} (ha : a < 4) (h : bt (lb T L p a) i = true) : bt (l4 T L p p) i = true := by
  have q0 := l1_q T L p 0
  have q1 := l1_q T (l1 T L p 0) p 1
  have q2 := l1_q T (l1 T (l1 T L p 0) p 1) p 2
  have q3 := l1_q T (l1 T (l1 T (l1 T L p 0) p 1) p 2) p 3
  have c : a = 0 ∨ a = 1 ∨ a = 2 ∨ a = 3 := by omega
  rcases c with rfl | rfl | rfl | rfl
  · exact q3 _ _ (q2 _ _ (q1 _ _ (l1_h h)))
  · exact q3 _ _ (q2 _ _ (l1_h (lb_q q0 h)))
  · exact q3 _ _ (l1_h (lb_q (lq_t q0 q1) h))
  · exact l1_h (lb_q (lq_t q0 (lq_t q1 q2)) h)
theorem lr_q (T : pw_T) (L : Nat → Int32) : ∀ k, lq L (lr T k L)
  | 0 => fun _ _ h => h
  | k + 1 => lq_t (lr_q T L k) (l4_q T _ k)
theorem lr_h {T : pw_T} {L : Nat → Int32} {q a i : Nat} (ha : a < 4) (h : bt (lb T L q a) i = true) : ∀ k, q < k → bt (lr T k L q) i = true
  | 0, hk => absurd hk (Nat.not_lt_zero q)
  | k + 1, hk => by
    by_cases e : q = k
    · subst e; exact l4_h ha (lb_q (lr_q T L q) h)
    · exact l4_q T _ k q i (lr_h ha h k (by omega))
def ls_d (n : Nat) (T : pw_T) (L : Nat → Int32) : Prop := ∀ p i, p ≤ n → bt (L p) i = true → pD n T i p
theorem l1_d {n : Nat} {T : pw_T} (g : pw_g n T) {L : Nat → Int32} {p a : Nat} (hp : p ≤ n) (ha : a < 4) (h : ls_d n T L) : ls_d n T (l1 T L p a) := fun q i hq x => by
  by_cases e : q = p
  · subst e
    rw [l1, ud_same, bt_or, Bool.or_eq_true] at x
    rcases x with x | x
    · exact h q i hq x
    · unfold lb at x
      cases eT : T q a with
      | none => rw [eT] at x; simp only [bt_zero, Bool.false_eq_true] at x
      | some v => cases v with
        | zero =>
          rw [eT] at x
          simp only [bt_shl (show a < 32 by omega), decide_eq_true_eq] at x
          subst x
          exact pD_e g hq ⟨ha, eT⟩
        | succ v =>
          rw [eT] at x
          exact pD_s g hq ha eT (Nat.succ_pos v) (h _ i (g q a _ hq ha eT) x)
  · rw [l1, ud_ne e] at x; exact h q i hq x
theorem l4_d {n : Nat} {T : pw_T} (g : pw_g n T) {L : Nat → Int32} {p : Nat} (hp : p ≤ n) (h : ls_d n T L) : ls_d n T (l4 T L p) :=
  l1_d g hp (by omega) (l1_d g hp (by omega) (l1_d g hp (by omega) (l1_d g hp (by omega) h)))
theorem lr_d {n : Nat} {T : pw_T} (g : pw_g n T) {L : Nat → Int32} (h : ls_d n T L) : ∀ k, k ≤ n + 1 → ls_d n T (lr T k L)
  | 0, _ => h
  | k + 1, hk => l4_d g (by omega) (lr_d g h k (by omega))
theorem li_d {n : Nat} {T : pw_T} (g : pw_g n T) : ∀ r (L : Nat → Int32), ls_d n T L → ls_d n T (li T n r L)
  | 0, _, h => h
  | r + 1, _, h => li_d g r _ (lr_d g h _ (Nat.le_refl _))
theorem lr_0 {n : Nat} {T : pw_T} (L : Nat → Int32) {p i : Nat} (hp : p ≤ n) (h : pR T i 0 p) : bt (lr T (n + 1) L p) i = true := by
  refine lr_h (a := i) h.1 ?_ (n + 1) (by omega)
  unfold lb; rw [h.2]
  simp only [bt_shl (show i < 32 by have := h.1; omega), decide_true]
theorem lr_s {n s : Nat} {T : pw_T} (g : pw_g n T) {L : Nat → Int32} (h : ∀ p i, p ≤ n → pR T i s p → bt (L p) i = true) {p i : Nat} (hp : p ≤ n) (x : pR T i (s + 1) p) : bt (lr T (n + 1) L p) i = true := by
  rcases x with x | ⟨a, v, ha, hT, hv, x⟩
  · exact lr_0 L hp x
  · refine lr_h ha ?_ (n + 1) (by omega)
    unfold lb; rw [hT]
    cases v with
    | zero => omega
    | succ v => exact h _ i (g p a _ hp ha hT) x
theorem li_c {n : Nat} {T : pw_T} (g : pw_g n T) : ∀ r s (L : Nat → Int32), (∀ p i, p ≤ n → pR T i s p → bt (L p) i = true) → ∀ p i, p ≤ n → pR T i (s + r) p → bt (li T n r L p) i = true
  | 0, _, _, h, p, i, hp, x => h p i hp x
  | r + 1, s, L, h, p, i, hp, x => li_c g r (s + 1) (lr T (n + 1) L) (fun p i hp x => lr_s g h hp x) p i hp (by rw [show s + 1 + r = s + (r + 1) by omega]; exact x)
theorem li_bits {n r : Nat} {T : pw_T} (g : pw_g n T) {L : Nat → Int32} (h0 : ∀ p, p ≤ n → L p = ii 0) (hr : n + 1 ≤ r) {p i : Nat} (hp : p ≤ n) : bt (li T n r L p) i = true ↔ pD n T i p := by
  constructor
  · exact li_d g r L (fun q j hq x => by rw [h0 q hq, bt_zero] at x; cases x) p i hp
  · intro x
    obtain ⟨d, rfl⟩ : ∃ d, r = d + 1 := ⟨r - 1, by omega⟩
    refine li_c g d 0 (lr T (n + 1) L) (fun p i hp x => lr_0 L hp x) p i hp ?_
    have := st_up (S := pR T i) (m := n + 1) (fun k p _ h => pR_s k p h) (k := n) (d - n) p (by omega) x
    rwa [show n + (d - n) = 0 + d by omega] at this
/-! the places come to -/
def qR (n : Nat) (T : pw_T) : Nat → Nat → Prop
  | 0, p => p = 0
  | k + 1, p => qR n T k p ∨ ∃ q a, q ≤ n ∧ a < 4 ∧ qR n T k q ∧ T q a = some p ∧ 0 < p
theorem qR_le {n : Nat} {T : pw_T} (g : pw_g n T) : ∀ k p, qR n T k p → p ≤ n
  | 0, p, h => by have : p = 0 := h; omega
  | k + 1, p, h => by
    rcases h with h | ⟨q, a, hq, ha, _, hT, _⟩
    · exact qR_le g k p h
    · exact g q a p hq ha hT
theorem qR_stab {n : Nat} {T : pw_T} : ∀ k p, p < n + 1 → qR n T k p → qR n T n p := by
  refine st_all (fun k p _ h => Or.inl h) (fun k st p hp h => ?_) (Or.inl (ct_pos (p := 0) (n + 1) (by omega) rfl))
  rcases h with h | ⟨q, a, hq, ha, h, hT, hp0⟩
  · exact h
  · exact Or.inr ⟨q, a, hq, ha, st q (by omega) h, hT, hp0⟩
def qD (n : Nat) (T : pw_T) (p : Nat) : Prop := qR n T n p
theorem qD_0 (n : Nat) (T : pw_T) : qD n T 0 := qR_stab 0 0 (by omega) rfl
theorem qD_s {n q a p : Nat} {T : pw_T} (g : pw_g n T) (hq : q ≤ n) (ha : a < 4) (h : qD n T q) (hT : T q a = some p) (hp : 0 < p) : qD n T p :=
  qR_stab (n + 1) p (Nat.lt_succ_of_le (g q a p hq ha hT)) (Or.inr ⟨q, a, hq, ha, h, hT, hp⟩)
/-- what a place adds: the class's way (the test once) and the reference's (at each atom) -/
def r1 (T : pw_T) (p : Nat) (R : Int32) (a : Nat) : Int32 := match T p a with
  | some (v + 1) => R ||| (ii 1 <<< (ii (v + 1) &&& ii 31))
  | _ => R
def r4 (T : pw_T) (p : Nat) (R : Int32) : Int32 := r1 T p (r1 T p (r1 T p (r1 T p R 0) 1) 2) 3
def rp (T : pw_T) (p : Nat) (R : Int32) : Int32 := if bt R p = true then r4 T p R else R
def rr (T : pw_T) : Nat → Int32 → Int32
  | 0, R => R
  | k + 1, R => rp T k (rr T k R)
def ri (T : pw_T) (n : Nat) : Nat → Int32 → Int32
  | 0, R => R
  | r + 1, R => ri T n r (rr T (n + 1) R)
theorem r1_q {T : pw_T} {p a i : Nat} {R : Int32} (h : bt R i = true) : bt (r1 T p R a) i = true := by
  unfold r1
  cases T p a with
  | none => exact h
  | some v => cases v with
    | zero => exact h
    | succ v => show bt (R ||| _) i = true; rw [bt_or, h]; rfl
theorem r1_h {T : pw_T} {p a v : Nat} {R : Int32} (hT : T p a = some v) (h0 : 0 < v) (h : v < 32) : bt (r1 T p R a) v = true := by
  unfold r1; rw [hT]
  cases v with
  | zero => omega
  | succ v => show bt (R ||| _) (v + 1) = true; rw [bt_or, bt_shl h]; simp
theorem r4_q {T : pw_T} {p i : Nat} {R : Int32} (h : bt R i = true) : bt (r4 T p R) i = true := r1_q (r1_q (r1_q (r1_q h)))
theorem r4_h {T : pw_T} {p a v : Nat} {R : Int32} (ha : a < 4) (hT : T p a = some v) (h0 : 0 < v) (h : v < 32) : bt (r4 T p R) v = true := by
  have c : a = 0 ∨ a = 1 ∨ a = 2 ∨ a = 3 := by omega
  rcases c with rfl | rfl | rfl | rfl
  · exact r1_q (r1_q (r1_q (r1_h hT h0 h)))
  · exact r1_q (r1_q (r1_h hT h0 h))
  · exact r1_q (r1_h hT h0 h)
  · exact r1_h hT h0 h
theorem rp_q {T : pw_T} {p i : Nat} {R : Int32} (h : bt R i = true) : bt (rp T p R) i = true := by
  unfold rp
  by_cases e : bt R p = true
  · rw [if_pos e]; exact r4_q h
  · rw [if_neg e]; exact h
theorem rr_q {T : pw_T} {i : Nat} {R : Int32} (h : bt R i = true) : ∀ k, bt (rr T k R) i = true
  | 0 => h
  | k + 1 => rp_q (rr_q h k)
theorem rr_h {T : pw_T} {q a v : Nat} {R : Int32} (hq : bt R q = true) (ha : a < 4) (hT : T q a = some v) (h0 : 0 < v) (h : v < 32) : ∀ k, q < k → bt (rr T k R) v = true
  | 0, hk => absurd hk (Nat.not_lt_zero q)
  | k + 1, hk => by
    by_cases e : q = k
    · subst e
      show bt (rp T q (rr T q R)) v = true
      unfold rp
      rw [if_pos (rr_q hq q)]
      exact r4_h ha hT h0 h
    · exact rp_q (rr_h hq ha hT h0 h k (by omega))
def rs_d (n : Nat) (T : pw_T) (R : Int32) : Prop := ∀ i, bt R i = true → qD n T i
theorem r1_d {n : Nat} {T : pw_T} (g : pw_g n T) (hn : n < 32) {p a : Nat} {R : Int32} (hp : p ≤ n) (hq : qD n T p) (ha : a < 4) (h : rs_d n T R) : rs_d n T (r1 T p R a) := fun i x => by
  unfold r1 at x
  cases e : T p a with
  | none => rw [e] at x; exact h i x
  | some v => cases v with
    | zero => rw [e] at x; exact h i x
    | succ v =>
      rw [e] at x
      have x : bt (R ||| (ii 1 <<< (ii (v + 1) &&& ii 31))) i = true := x
      have hv := g p a _ hp ha e
      rw [bt_or, bt_shl (show v + 1 < 32 by omega), Bool.or_eq_true, decide_eq_true_eq] at x
      rcases x with x | x
      · exact h i x
      · subst x; exact qD_s g hp ha hq e (Nat.succ_pos v)
theorem rp_d {n : Nat} {T : pw_T} (g : pw_g n T) (hn : n < 32) {p : Nat} {R : Int32} (hp : p ≤ n) (h : rs_d n T R) : rs_d n T (rp T p R) := by
  unfold rp
  by_cases e : bt R p = true
  · rw [if_pos e]
    have hq := h p e
    exact r1_d g hn hp hq (by omega) (r1_d g hn hp hq (by omega) (r1_d g hn hp hq (by omega) (r1_d g hn hp hq (by omega) h)))
  · rw [if_neg e]; exact h
theorem rr_d {n : Nat} {T : pw_T} (g : pw_g n T) (hn : n < 32) {R : Int32} (h : rs_d n T R) : ∀ k, k ≤ n + 1 → rs_d n T (rr T k R)
  | 0, _ => h
  | k + 1, hk => rp_d g hn (by omega) (rr_d g hn h k (by omega))
theorem ri_d {n : Nat} {T : pw_T} (g : pw_g n T) (hn : n < 32) : ∀ r (R : Int32), rs_d n T R → rs_d n T (ri T n r R)
  | 0, _, h => h
  | r + 1, _, h => ri_d g hn r _ (rr_d g hn h _ (Nat.le_refl _))
theorem rr_s {n s : Nat} {T : pw_T} (g : pw_g n T) (hn : n < 32) {R : Int32} (h : ∀ p, qR n T s p → bt R p = true) {p : Nat} (x : qR n T (s + 1) p) : bt (rr T (n + 1) R) p = true := by
  have hp := qR_le g (s + 1) p x
  rcases x with x | ⟨q, a, hq, ha, x, hT, h0⟩
  · exact rr_q (h p x) _
  · exact rr_h (h q x) ha hT h0 (by omega) _ (by omega)
theorem ri_c {n : Nat} {T : pw_T} (g : pw_g n T) (hn : n < 32) : ∀ r s (R : Int32), (∀ p, qR n T s p → bt R p = true) → ∀ p, qR n T (s + r) p → bt (ri T n r R) p = true
  | 0, _, _, h, p, x => h p x
  | r + 1, s, R, h, p, x => ri_c g hn r (s + 1) (rr T (n + 1) R) (fun p x => rr_s g hn h x) p (by rw [show s + 1 + r = s + (r + 1) by omega]; exact x)
theorem bt_one (i : Nat) : bt (ii 1) i = true ↔ i = 0 := by
  show (1#32).getLsbD i = true ↔ _
  rw [BitVec.getLsbD_one]; simp
theorem qR_up {n s : Nat} {T : pw_T} (d : Nat) {p : Nat} (h : qR n T s p) : qR n T (s + d) p := by
  induction d with
  | zero => exact h
  | succ d ih => exact Or.inl ih
theorem ri_bits {n r : Nat} {T : pw_T} (g : pw_g n T) (hn : n < 32) (hr : n ≤ r) (i : Nat) : bt (ri T n r (ii 1)) i = true ↔ qD n T i := by
  constructor
  · refine ri_d g hn r _ (fun j x => ?_) i
    rw [bt_one] at x; subst x; exact qD_0 n T
  · intro x
    refine ri_c g hn r 0 (ii 1) (fun p x => (bt_one p).mpr x) i ?_
    have := qR_up (s := n) (r - n) x
    rwa [show n + (r - n) = 0 + r by omega] at this
