/-! the reference's goesFrom and lays -/
def ma (z : ql_St) (i : Nat) (D : Nat → Nat) (V : Nat → Int32) (L Q : Nat → Option Nat) (E : Nat) : Prop :=
  E < 400 ∧ (∀ y, y ≤ E → z 3 (400 * i + y) = ii (D y) ∧ D y < 5 ∧ z 4 (400 * i + y) = V y ∧ (D y = 1 ∨ D y = 2 → z 5 (400 * i + y) = em (Q y)) ∧ (D y = 0 → V y = em (L y)) ∧ (D y = 1 → y < E) ∧ (D y = 1 ∨ D y = 2 → ∀ t, Q y = some t → t ≤ E))
section
variable {N E n : Nat} {D : Nat → Nat} {V : Nat → Int32} {L Q : Nat → Option Nat} {z : ql_Z}
theorem m_gf6 {i a : Nat} (h : ma z.1 i D V L Q E) (hi : i < 4) (ha : a < 4) : ∀ d k y m, k + d = 401 → d + 1 ≤ m → y ≤ E → f_X11_goesFrom_6 N z m (ii i) (ii a) (ii y) (ii k) = some (em (rj (mr D V L Q a d y))) := by
  have hE := h.1
  intro d
  induction d with
  | zero =>
    intro k y m hk hm hy
    obtain ⟨m, rfl⟩ : ∃ j, m = j + 1 := ⟨m - 1, by omega⟩
    rw [f_X11_goesFrom_6]
    exact sp (lt_y (a := 400) k (by omega) (by omega)) rfl
  | succ d ih =>
    intro k y m hk hm hy
    obtain ⟨m, rfl⟩ : ∃ j, m = j + 1 := ⟨m - 1, by omega⟩
    obtain ⟨e3, hD, e4, e5, eL, e1, eQ⟩ := h.2 y hy
    have ix : (ii 400 * ii i + ii y) = ii (400 * i + y) := by rw [ii_mul, ii_add]
    have inat : (ii (400 * i + y)).toNatClampNeg = 400 * i + y := ii_nat (by omega)
    have ib : ql_ib (ii (400 * i + y)) 2000 = true := ii_ib (by omega) (by omega)
    have d0 : ii (D y) = ii 0 ↔ D y = 0 := ii_eq (by omega) (by omega)
    have d4 : ii (D y) = ii 4 ↔ D y = 4 := ii_eq (by omega) (by omega)
    have d3 : ii (D y) = ii 3 ↔ D y = 3 := ii_eq (by omega) (by omega)
    have d1 : ii (D y) = ii 1 ↔ D y = 1 := ii_eq (by omega) (by omega)
    have bb := bt_shr (x := V y) (show a < 32 by omega)
    rw [f_X11_goesFrom_6, lk_400, lk_0, lk_4, lk_3, lk_1, lk_31, ix, inat, e3, e4]
    refine sn (lt_n (a := 400) k (by omega) (by omega)) (sp ib ?_)
    by_cases c0 : D y = 0
    · rw [mr_act c0]
      refine sp (d0.mpr c0) (sp ib ?_)
      rw [eL c0]; rfl
    · refine sn (fun x => c0 (d0.mp x)) (sp ib ?_)
      by_cases c4 : D y = 4
      · rw [mr_end c4]
        refine sp (d4.mpr c4) ?_
        unfold f_X11_goesFrom_64
        rw [inat, e3]
        exact sp ib (sp (d4.mpr c4) rfl)
      · refine sn (fun x => c4 (d4.mp x)) (sp ib ?_)
        by_cases c3 : D y = 3
        · rw [mr_stop c3]
          refine sp (d3.mpr c3) ?_
          unfold f_X11_goesFrom_64
          rw [inat, e3]
          exact sp ib (sn (fun x => c4 (d4.mp x)) rfl)
        · refine sn (fun x => c3 (d3.mp x)) (sp ib ?_)
          have off : (D y = 1 ∧ ¬ bt (V y) a = true) ∨ D y = 2 → f_X11_goesFrom_111 N z (f_X11_goesFrom_6 N z m) (ii i) (ii a) (ii y) (ii k) (ii (400 * i + y)) = some (em (rj (mr D V L Q a (d + 1) y))) := fun ho => by
            have h12 : D y = 1 ∨ D y = 2 := ho.elim (fun x => Or.inl x.1) Or.inr
            have e5 := e5 h12
            have eQ := eQ h12
            unfold f_X11_goesFrom_111 f_X11_goesFrom_112 f_X11_goesFrom_133
            rw [inat, e5]
            refine sp rfl (sp ib ?_)
            cases eq : Q y with
            | none =>
              rw [mr_no ho eq]
              exact sn (fun x => by have := (ii_le_ni (show 1 < 2147483648 by omega) (show 0 < 2147483648 by omega)).mp x; omega) rfl
            | some t =>
              rw [mr_to ho eq]
              have := eQ t eq
              refine sp (zk (by omega)) ?_
              rw [lk_1, ii_add]
              exact ih (k + 1) t m (by omega) (by omega) this
          by_cases c1 : D y = 1
          · refine sp (d1.mpr c1) (sp ib ?_)
            by_cases b : bt (V y) a = true
            · rw [mr_on c1 b]
              refine sp (bb.mpr b) ?_
              have := e1 c1
              unfold f_X11_goesFrom_112 f_X11_goesFrom_133
              rw [lk_1, ii_add, ii_add]
              exact sn n10 (sp (zk (by omega)) (ih (k + 1) (y + 1) m (by omega) (by omega) (by omega)))
            · exact sn (fun x => b (bb.mp x)) (off (Or.inl ⟨c1, b⟩))
          · exact sn (fun x => c1 (d1.mp x)) (off (Or.inr (by omega)))
theorem m_goesFrom {i a y : Nat} (hN : 1000 ≤ N) (h : ma z.1 i D V L Q E) (hi : i < 4) (ha : a < 4) (hy : y ≤ E) : f_X11_goesFrom N z (ii i) (ii y) (ii a) = some (em (rj (mr D V L Q a 401 y))) := by
  unfold f_X11_goesFrom f_X11_goesFrom_0
  exact m_gf6 h hi ha 401 0 y N (by omega) (by omega) hy
theorem ma_f {i : Nat} {z z' : ql_St} (h : ma z i D V L Q E) (e3 : z' 3 = z 3) (e4 : z' 4 = z 4) (e5 : z' 5 = z 5) : ma z' i D V L Q E := by
  unfold ma at *
  rw [e3, e4, e5]; exact h
/-- the reference's table as far as it is laid -/
def tm (F F0 : Nat → Int32) (i : Nat) (T : pw_T) (k : Nat) : Prop := (∀ q a, a < 4 → 4 * q + a < k → F (68 * i + 4 * q + a) = em (T q a)) ∧ ∀ x, (x < 68 * i ∨ 68 * i + 68 ≤ x) → F x = F0 x
theorem tm_s {F F0 : Nat → Int32} {i p a : Nat} {T : pw_T} {x : Int32} (hp : p ≤ 16) (ha : a < 4) (h : tm F F0 i T (4 * p + a)) (hx : x = em (T p a)) : tm (upd F (68 * i + 4 * p + a) x) F0 i T (4 * p + a + 1) := by
  refine ⟨fun q b hb hk => ?_, fun y hy => ?_⟩
  · by_cases e : 4 * q + b = 4 * p + a
    · obtain rfl : q = p := by omega
      obtain rfl : b = a := by omega
      rw [ud_same]; exact hx
    · rw [ud_ne (by omega)]; exact h.1 q b hb (by omega)
  · rw [ud_ne (by omega)]; exact h.2 y hy
theorem m_ly14 {i p : Nat} {F F0 : Nat → Int32} {T : pw_T} {B : Nat → Nat} {k2 : ql_Z → Int32 → Int32 → Option ql_Z} (hN : 1000 ≤ N) (h : ma z.1 i D V L Q E) (hi : i < 4) (hp : p ≤ 16) (hB : B p ≤ E) (h0 : B 0 = 0) (h8 : 0 < p → z.1 8 (17 * i + p) = ii (B p)) (hT : ∀ a, a < 4 → T p a = rj (mr D V L Q a 401 (B p))) (hF : tm F F0 i T (4 * p)) :
    ∃ F', tm F' F0 i T (4 * (p + 1)) ∧ f_X11_lays_14 N k2 N (ql_up z.1 13 F, z.2) (ii i) (ii p) 0 = k2 (ql_up z.1 13 F', z.2) (ii i) (ii (p + 1)) := by
  have hE := h.1
  have st : ∀ a m F, a < 4 → tm F F0 i T (4 * p + a) → ∃ F', tm F' F0 i T (4 * p + a + 1) ∧ f_X11_lays_14 N k2 (m + 1) (ql_up z.1 13 F, z.2) (ii i) (ii p) (ii a) = f_X11_lays_14 N k2 m (ql_up z.1 13 F', z.2) (ii i) (ii p) (ii (a + 1)) := fun a m F ha hF => by
    have hF' := tm_s (x := em (T p a)) hp ha hF rfl
    refine ⟨_, hF', ?_⟩
    have gf := m_goesFrom (N := N) (z := (ql_up z.1 13 F, z.2)) (y := B p) hN (ma_f (z' := ql_up z.1 13 F) h rfl rfl rfl) hi ha hB
    rw [← hT a ha] at gf
    have ix : ii 68 * ii i + ii 4 * ii p + ii a = ii (68 * i + 4 * p + a) := by rw [ii_mul, ii_mul, ii_add, ii_add]
    have e54 : ∀ y0, y0 = ii (B p) → f_X11_lays_54 N k2 (f_X11_lays_14 N k2 m) (ql_up z.1 13 F, z.2) (ii i) (ii p) (ii a) y0 (ii i) (ii (68 * i + 4 * p + a)) = f_X11_lays_14 N k2 m (ql_up z.1 13 (upd F (68 * i + 4 * p + a) (em (T p a))), z.2) (ii i) (ii p) (ii (a + 1)) := fun y0 e => by
      unfold f_X11_lays_54
      rw [e]
      refine sb gf (sp (ii_ib (by omega) (by omega)) ?_)
      rw [ii_nat (by omega), lk_1, ii_add]
      show f_X11_lays_14 N k2 m (ql_up (ql_up z.1 13 F) 13 (upd (ql_up z.1 13 F 13) (68 * i + 4 * p + a) (em (T p a))), z.2) _ _ _ = _
      rw [up_up, up_same]
    rw [f_X11_lays_14, lk_68, lk_4, ix, lk_0]
    refine sn (le_n (a := 4) a (by omega) (by omega)) ?_
    by_cases q : p = 0
    · subst q
      exact sp rfl (e54 (ii 0) (by rw [h0]))
    · refine sn (fun x => by have := (ii_eq (b := 0) (show p < 2147483648 by omega) (by omega)).mp x; omega) ?_
      have i17 : ii 17 * ii i + ii p = ii (17 * i + p) := by rw [ii_mul, ii_add]
      rw [lk_17, i17, ii_nat (by omega)]
      refine sp (ii_ib (by omega) (by omega)) (e54 _ ?_)
      show ql_up z.1 13 F 8 (17 * i + p) = _
      rw [up_ne (by decide)]; exact h8 (by omega)
  obtain ⟨j, hj⟩ : ∃ j, N = j + 5 := ⟨N - 5, by omega⟩
  obtain ⟨F1, a1, b1⟩ := st 0 (j + 4) F (by omega) hF
  obtain ⟨F2, a2, b2⟩ := st 1 (j + 3) F1 (by omega) a1
  obtain ⟨F3, a3, b3⟩ := st 2 (j + 2) F2 (by omega) a2
  obtain ⟨F4, a4, b4⟩ := st 3 (j + 1) F3 (by omega) a3
  refine ⟨F4, by rw [show 4 * (p + 1) = 4 * p + 3 + 1 by omega]; exact a4, ?_⟩
  have en : f_X11_lays_14 N k2 N (ql_up z.1 13 F, z.2) (ii i) (ii p) 0 = f_X11_lays_14 N k2 (j + 5) (ql_up z.1 13 F, z.2) (ii i) (ii p) (ii 0) := by rw [← hj]; rfl
  rw [en, b1, b2, b3, b4, f_X11_lays_14, lk_1, ii_add]
  exact sp (le_y (a := 4) 4 (by omega) (by omega)) rfl
theorem m_lays {i : Nat} {T : pw_T} {B : Nat → Nat} (hN : 1000 ≤ N) (h : ma z.1 i D V L Q E) (hi : i < 4) (hn : n ≤ 16) (h9 : z.1 9 i = ii n) (hB : ∀ p, p ≤ n → B p ≤ E) (h0 : B 0 = 0) (h8 : ∀ p, 0 < p → p ≤ n → z.1 8 (17 * i + p) = ii (B p)) (hT : ∀ p a, p ≤ n → a < 4 → T p a = rj (mr D V L Q a 401 (B p))) :
    ∃ F, f_X11_lays N z (ii i) = some (ql_up z.1 13 F, z.2) ∧ m_tab F i n T ∧ ∀ x, (x < 68 * i ∨ 68 * i + 68 ≤ x) → F x = z.1 13 x := by
  have go : ∀ j p m F, p + j = n + 1 → j + 1 ≤ m → tm F (z.1 13) i T (4 * p) → ∃ F', f_X11_lays_2 N m (ql_up z.1 13 F, z.2) (ii i) (ii p) = some (ql_up z.1 13 F', z.2) ∧ tm F' (z.1 13) i T (4 * (n + 1)) := by
    intro j
    induction j with
    | zero =>
      intro p m F hp hm hF
      obtain ⟨m, rfl⟩ : ∃ j, m = j + 1 := ⟨m - 1, by omega⟩
      obtain rfl : p = n + 1 := by omega
      refine ⟨F, ?_, hF⟩
      rw [f_X11_lays_2, ii_nat (show i < 2147483648 by omega)]
      refine sp (ii_ib (by omega) (by omega)) (sp ?_ rfl)
      show ql_up z.1 13 F 9 i < ii (n + 1)
      rw [up_ne (by decide), h9]
      exact lt_y (n + 1) (by omega) (by omega)
    | succ j ih =>
      intro p m F hp hm hF
      obtain ⟨m, rfl⟩ : ∃ j, m = j + 1 := ⟨m - 1, by omega⟩
      obtain ⟨F1, a1, a2⟩ := m_ly14 (N := N) (k2 := f_X11_lays_2 N m) hN h hi (show p ≤ 16 by omega) (hB p (by omega)) h0 (fun q => h8 p q (by omega)) (fun a ha => hT p a (by omega) ha) hF
      obtain ⟨F2, b1, b2⟩ := ih (p + 1) m F1 (by omega) (by omega) a1
      refine ⟨F2, ?_, b2⟩
      rw [f_X11_lays_2, ii_nat (show i < 2147483648 by omega), a2, b1]
      refine sp (ii_ib (by omega) (by omega)) (sn ?_ rfl)
      show ¬ ql_up z.1 13 F 9 i < ii p
      rw [up_ne (by decide), h9]
      exact lt_n p (by omega) (by omega)
  unfold f_X11_lays f_X11_lays_0
  have := go (n + 1) 0 N (z.1 13) (by omega) (by omega) ⟨fun q a _ hk => by omega, fun _ _ => rfl⟩
  rw [up_self] at this
  obtain ⟨F, f1, f2⟩ := this
  exact ⟨F, f1, fun p a hp ha => f2.1 p a ha (by omega), f2.2⟩
end
