/-! the reference's fewest -/
theorem bt_shr0 {x : Int32} {a : Nat} (h : a < 32) : ((x >>> (ii a &&& ii 31)) &&& ii 1) = ii 0 ↔ ¬ bt x a = true := by
  constructor
  · intro q b
    have := (bt_shr h).mpr b
    rw [q] at this
    exact n01 this
  · intro b
    refine bt_ext fun i _ => ?_
    rw [bt_zero, bt_and]
    by_cases e : i = 0
    · subst e
      have e0 : bt (x >>> (ii a &&& ii 31)) 0 = bt x a := by
        have e : (x >>> (ii a &&& ii 31)).toBitVec = x.toBitVec.sshiftRight a := by
          rw [Int32.toBitVec_shiftRight, BitVec.sshiftRight_eq', sh_amt h]
        unfold bt; rw [e, BitVec.getLsbD_sshiftRight]; simp [h]
      rw [e0]
      cases c : bt x a with
      | false => rfl
      | true => exact absurd c b
    · have : bt (ii 1) i = false := by
        cases c : bt (ii 1) i with
        | false => rfl
        | true => exact absurd ((bt_one i).mp c) e
      rw [this, Bool.and_false]
def mv (x : Nat) : Int32 := if x = 0 then -ii 1 else if x = 1 then ii 0 else ii (4 * ((x - 2) % 18 + 1) + (x - 2) / 18)
theorem mv_i {x y : Nat} (hx : sr x) (hy : sr y) : mv x = mv y ↔ x = y := by
  constructor
  · intro h
    unfold mv at h
    rcases hx with rfl | rfl | ⟨a, b⟩
    · rcases hy with rfl | rfl | ⟨c, d⟩
      · rfl
      · rw [if_pos rfl, if_neg (by omega), if_pos rfl, ni_eq_ii (by omega) (by omega)] at h; omega
      · rw [if_pos rfl, if_neg (by omega), if_neg (by omega), ni_eq_ii (by omega) (by omega)] at h; omega
    · rcases hy with rfl | rfl | ⟨c, d⟩
      · rw [if_neg (by omega), if_pos rfl, if_pos rfl, ii_eq_ni (by omega) (by omega)] at h; omega
      · rfl
      · rw [if_neg (by omega), if_pos rfl, if_neg (by omega), if_neg (by omega), ii_eq (by omega) (by omega)] at h; omega
    · rcases hy with rfl | rfl | ⟨c, d⟩
      · rw [if_neg (by omega), if_neg (by omega), if_pos rfl, ii_eq_ni (by omega) (by omega)] at h; omega
      · rw [if_neg (by omega), if_neg (by omega), if_neg (by omega), if_pos rfl, ii_eq (by omega) (by omega)] at h; omega
      · rw [if_neg (by omega), if_neg (by omega), if_neg (by omega), if_neg (by omega), ii_eq (by omega) (by omega)] at h
        omega
  · intro h; rw [h]
section
variable (n : Nat) (T : pw_T) (A : Nat → Nat)
noncomputable def lm (G : Nat → Nat) (p : Nat) : Nat → Nat → Nat
  | 0, x => x
  | c + 1, x => lm G p c (@ite Nat (gd n T A G c p) (Classical.propDecidable _) (gn n T A G c) x)
end
section
variable {N n : Nat} {T : pw_T} {A : Nat → Nat} {P : Nat → ql_St}
theorem lm_p {G : Nat → Nat} {p c x : Nat} (h : gd n T A G c p) : lm n T A G p (c + 1) x = lm n T A G p c (gn n T A G c) := by
  show lm n T A G p c (@ite Nat (gd n T A G c p) (Classical.propDecidable _) (gn n T A G c) x) = _
  rw [if_pos h]
theorem lm_n {G : Nat → Nat} {p c x : Nat} (h : ¬ gd n T A G c p) : lm n T A G p (c + 1) x = lm n T A G p c x := by
  show lm n T A G p c (@ite Nat (gd n T A G c p) (Classical.propDecidable _) (gn n T A G c) x) = _
  rw [if_neg h]
theorem lm_no {G : Nat → Nat} {p : Nat} : ∀ c x, (∀ q, q < c → ¬ gd n T A G q p) → lm n T A G p c x = x
  | 0, _, _ => rfl
  | c + 1, x, h => by rw [lm_n (h c (by omega))]; exact lm_no c x (fun q hq => h q (by omega))
theorem lm_yes {G : Nat → Nat} {p r : Nat} (hr : gd n T A G r p) (h0 : gn n T A G r = r) (hn : ∀ q, q < r → ¬ gd n T A G q p) : ∀ c x, r < c → lm n T A G p c x = r
  | 0, _, h => by omega
  | c + 1, x, h => by
    by_cases e : r = c
    · subst e; rw [lm_p hr, h0]; exact lm_no r r hn
    · by_cases q : gd n T A G c p
      · rw [lm_p q]; exact lm_yes hr h0 hn c _ (by omega)
      · rw [lm_n q]; exact lm_yes hr h0 hn c _ (by omega)
theorem lm_gn {G : Nat → Nat} {p : Nat} (hp : lv n T p) : lm n T A G p p p = gn n T A G p := by
  obtain ⟨a1, a2⟩ := gn_sp (n := n) (T := T) (A := A) G p
  rcases a1 with a1 | a1
  · exact lm_yes a1.2 (gn_rep hp).2.2 a2 p p a1.1
  · rw [a1] at a2 ⊢
    exact lm_no p p a2
/-- the state of the reference as it counts groups: the surveys are done -/
def mg (z : ql_Z) (i n : Nat) (T : pw_T) (A : Nat → Nat) : Prop := mp z i n T A ∧ z.1 9 i = ii n ∧ ∀ p, bt (z.1 33 0) p = true ↔ lD n T p
abbrev gz (z : ql_Z) (G F : Nat → Int32) : ql_Z := (ql_up (ql_up z.1 34 G) 35 F, z.2)
theorem gz_f (z : ql_Z) (G F : Nat → Int32) : ∀ s, s < 34 → (gz z G F).1 s = z.1 s := fun s hs => (up_ne (S := ql_up z.1 34 G) (k := 35) (by omega)).trans (up_ne (by omega))
theorem mg_f {z : ql_Z} {i : Nat} (h : mg z i n T A) (G F : Nat → Int32) : mg (gz z G F) i n T A := by
  have e := gz_f z G F
  exact ⟨mp_f h.1 (fun s hs => e s (by omega)), by rw [e 9 (by omega)]; exact h.2.1, by rw [e 33 (by omega)]; exact h.2.2⟩
theorem m_sees {z : ql_Z} {G F : Nat → Int32} {g : Nat → Nat} {i p a : Nat} (h : mg z i n T A) (hi : i < 4) (hG : ∀ q, lv n T q → G q = ii (g q)) (hg : ∀ q, q ≤ n → g q ≤ 16) (hp : lv n T p) (ha : a < 4) : f_X11_sees N (gz z G F) (ii i) (ii p) (ii a) = some (mv (sv n T A g p a)) := by
  have gg := h.1.1.2.1
  have hpn := lv_le gg hp
  have hn := h.1.1.1
  have h' := mg_f h G F
  unfold f_X11_sees f_X11_sees_0
  refine sb (m_to h'.1.2.1 hi hn hpn ha) ?_
  have hv := gg p a
  cases e : T p a with
  | none =>
    rw [sv_x e]
    exact sn (fun x => (ii_lt_ni (show 1 < 2147483648 by omega) (show 0 < 2147483648 by omega)).mp x) rfl
  | some v => cases v with
    | zero =>
      rw [sv_0 e]
      exact sn (lt_n (a := 0) 0 (by omega) (by omega)) rfl
    | succ v =>
      have hvn := hv _ hpn ha e
      have hA := h.1.1.2.2 (v + 1) (by omega) hvn
      have hq : qD n T (v + 1) := qD_s gg hpn ha hp.1 e (Nat.succ_pos v)
      have e33 := h'.2.2 (v + 1)
      have b := bt_shr0 (x := (gz z G F).1 33 0) (show v + 1 < 32 by omega)
      by_cases q : lv n T (v + 1)
      · rw [sv_l e q]
        refine sp (lt_y (a := 0) (v + 1) (by omega) (by omega)) (sn (fun x => (b.mp x) (e33.mpr ⟨hvn, q.2⟩)) (sp (ii_ib (by omega) (by omega)) (sb (m_actOf h'.1.2.2 hi hn (by omega) hvn) ?_)))
        show some (4 * ((gz z G F).1 34 (ii (v + 1)).toNatClampNeg + 1) + ii (A (v + 1))) = _
        have e34 : (gz z G F).1 34 (v + 1) = ii (g (v + 1)) := by
          rw [← hG _ q]; rfl
        have := hg _ hvn
        rw [ii_nat (by omega), e34, lk_4, lk_1, ii_add, ii_mul, ii_add]
        unfold mv
        rw [if_neg (by omega), if_neg (by omega), show (2 + (A (v + 1) * 18 + g (v + 1)) - 2) % 18 = g (v + 1) by omega, show (2 + (A (v + 1) * 18 + g (v + 1)) - 2) / 18 = A (v + 1) by omega]
      · rw [sv_n e q]
        exact sp (lt_y (a := 0) (v + 1) (by omega) (by omega)) (sp (b.mpr (fun x => q ⟨hq, (e33.mp x).2⟩)) rfl)
theorem m_areAlike {z : ql_Z} {G F : Nat → Int32} {g : Nat → Nat} {i p q : Nat} (hN : 1000 ≤ N) (h : mg z i n T A) (hi : i < 4) (hG : ∀ q, lv n T q → G q = ii (g q)) (hg : ∀ q, q ≤ n → g q ≤ 16) (hp : lv n T p) (hq : lv n T q) :
    (al n T A g p q → f_X11_areAlike N (gz z G F) (ii i) (ii p) (ii q) = some (ii 1)) ∧ (¬ al n T A g p q → f_X11_areAlike N (gz z G F) (ii i) (ii p) (ii q) = some (ii 0)) := by
  have ok := h.1.1
  have gg := ok.2.1
  have st1 : ∀ a m, a < 4 → (sv n T A g p a = sv n T A g q a → f_X11_areAlike_6 N (gz z G F) (m + 1) (ii i) (ii p) (ii q) (ii 1) (ii a) = f_X11_areAlike_6 N (gz z G F) m (ii i) (ii p) (ii q) (ii 1) (ii (a + 1))) ∧ (¬ sv n T A g p a = sv n T A g q a → f_X11_areAlike_6 N (gz z G F) (m + 1) (ii i) (ii p) (ii q) (ii 1) (ii a) = f_X11_areAlike_6 N (gz z G F) m (ii i) (ii p) (ii q) (ii 0) (ii (a + 1))) := fun a m ha => by
    have r := mv_i (sv_r ok hg (lv_le gg hp) ha) (sv_r ok hg (lv_le gg hq) ha)
    rw [f_X11_areAlike_6]
    unfold f_X11_areAlike_40 f_X11_areAlike_41
    rw [lk_1, ii_add]
    refine ⟨fun x => ?_, fun x => ?_⟩
    · exact sn (le_n (a := 4) a (by omega) (by omega)) (sn n10 (sb (m_sees h hi hG hg hp ha) (sb (m_sees h hi hG hg hq ha) (sp (r.mpr x) rfl))))
    · exact sn (le_n (a := 4) a (by omega) (by omega)) (sn n10 (sb (m_sees h hi hG hg hp ha) (sb (m_sees h hi hG hg hq ha) (sn (fun y => x (r.mp y)) rfl))))
  have st0 : ∀ a m, a < 4 → f_X11_areAlike_6 N (gz z G F) (m + 1) (ii i) (ii p) (ii q) (ii 0) (ii a) = f_X11_areAlike_6 N (gz z G F) m (ii i) (ii p) (ii q) (ii 0) (ii (a + 1)) := fun a m ha => by
    rw [f_X11_areAlike_6]
    unfold f_X11_areAlike_40 f_X11_areAlike_41
    rw [lk_1, ii_add]
    exact sn (le_n (a := 4) a (by omega) (by omega)) (sp rfl rfl)
  have fin : ∀ m x, (x = ii 0 ∨ x = ii 1) → f_X11_areAlike_6 N (gz z G F) (m + 1) (ii i) (ii p) (ii q) x (ii 4) = some x := fun m x hx => by
    rw [f_X11_areAlike_6]
    refine sp (le_y (a := 4) 4 (by omega) (by omega)) (sp ?_ rfl)
    rcases hx with rfl | rfl
    · exact bz_0
    · exact bz_1
  unfold f_X11_areAlike f_X11_areAlike_0
  obtain ⟨j, hj⟩ : ∃ j, N = j + 5 := ⟨N - 5, by omega⟩
  have en : f_X11_areAlike_6 N (gz z G F) N (ii i) (ii p) (ii q) 1 0 = f_X11_areAlike_6 N (gz z G F) (j + 5) (ii i) (ii p) (ii q) (ii 1) (ii 0) := by rw [← hj]; rfl
  rw [en]
  by_cases h0 : sv n T A g p 0 = sv n T A g q 0
  · rw [(st1 0 _ (by omega)).1 h0]
    by_cases h1 : sv n T A g p 1 = sv n T A g q 1
    · rw [(st1 1 _ (by omega)).1 h1]
      by_cases h2 : sv n T A g p 2 = sv n T A g q 2
      · rw [(st1 2 _ (by omega)).1 h2]
        by_cases h3 : sv n T A g p 3 = sv n T A g q 3
        · rw [(st1 3 _ (by omega)).1 h3, fin _ _ (Or.inr rfl)]
          have yes : al n T A g p q := fun a ha => by
            rcases (show a = 0 ∨ a = 1 ∨ a = 2 ∨ a = 3 by omega) with rfl | rfl | rfl | rfl
            · exact h0
            · exact h1
            · exact h2
            · exact h3
          exact ⟨fun _ => rfl, fun x => absurd yes x⟩
        · rw [(st1 3 _ (by omega)).2 h3, fin _ _ (Or.inl rfl)]
          exact ⟨fun x => absurd (x 3 (by omega)) h3, fun _ => rfl⟩
      · rw [(st1 2 _ (by omega)).2 h2, st0 3 _ (by omega), fin _ _ (Or.inl rfl)]
        exact ⟨fun x => absurd (x 2 (by omega)) h2, fun _ => rfl⟩
    · rw [(st1 1 _ (by omega)).2 h1, st0 2 _ (by omega), st0 3 _ (by omega), fin _ _ (Or.inl rfl)]
      exact ⟨fun x => absurd (x 1 (by omega)) h1, fun _ => rfl⟩
  · rw [(st1 0 _ (by omega)).2 h0, st0 1 _ (by omega), st0 2 _ (by omega), st0 3 _ (by omega), fin _ _ (Or.inl rfl)]
    exact ⟨fun x => absurd (x 0 (by omega)) h0, fun _ => rfl⟩
theorem m_fe83 {z : ql_Z} {G F : Nat → Int32} {g : Nat → Nat} {i p : Nat} {x2 x3 x4 : Int32} {k50 : ql_Z → Int32 → Int32 → Int32 → Int32 → Option (Int32 × ql_Z)} {k62 : ql_Z → Int32 → Int32 → Int32 → Int32 → Int32 → Option (Int32 × ql_Z)} (hN : 1000 ≤ N) (h : mg z i n T A) (hi : i < 4) (hs : ∀ q, q ≤ n → (bt x2 q = true ↔ lv n T q)) (hG : ∀ q, lv n T q → G q = ii (g q)) (hg : ∀ q, q ≤ n → g q ≤ 16) (hF : ∀ q, q < p → lv n T q → F q = ii (gn n T A g q)) (hp : lv n T p) :
    ∀ c m x, c ≤ p → c + 1 ≤ m → f_X11_fewest_83 N k50 k62 m (gz z G F) (ii i) x2 x3 x4 (ii p) (ii x) (em (de c)) = f_X11_fewest_140 N k50 k62 (gz z G F) (ii i) x2 x3 x4 (ii p) (ii (lm n T A g p c x)) := by
  have gg := h.1.1.2.1
  have hn := h.1.1.1
  have hpn := lv_le gg hp
  intro c
  induction c with
  | zero =>
    intro m x hc hm
    obtain ⟨m, rfl⟩ : ∃ j, m = j + 1 := ⟨m - 1, by omega⟩
    rw [f_X11_fewest_83]
    exact sp ((ni_lt_ii (show 1 < 2147483648 by omega) (show 0 < 2147483648 by omega)).mpr (by omega)) rfl
  | succ c ih =>
    intro m x hc hm
    obtain ⟨m, rfl⟩ : ∃ j, m = j + 1 := ⟨m - 1, by omega⟩
    have e0 : em (de (c + 1)) = ii c := rfl
    have e1 : ii c + (-1) = em (de c) := by rw [← em_de, Int32.sub_eq_add_neg]; rfl
    have b1 : ((x2 >>> (ii p &&& 31)) &&& 1) = 1 := (bt_shr (show p < 32 by omega)).mpr ((hs p hpn).mpr hp)
    rw [f_X11_fewest_83, e0]
    unfold f_X11_fewest_130 f_X11_fewest_132
    rw [e1]
    refine sn (nl0 (by omega)) (sp b1 ?_)
    by_cases a : lv n T c
    · have b2 : ((x2 >>> (ii c &&& 31)) &&& 1) = 1 := (bt_shr (show c < 32 by omega)).mpr ((hs c (by omega)).mpr a)
      obtain ⟨g1, g2⟩ := m_areAlike (N := N) (F := F) hN h hi hG hg hp a
      refine sp b2 ?_
      by_cases b : al n T A g p c
      · rw [lm_p ⟨a, al_s b⟩]
        refine sb (g1 b) (sn n10 (sp (ii_ib (by omega) (by omega)) ?_))
        show f_X11_fewest_83 N k50 k62 m (gz z G F) (ii i) x2 x3 x4 (ii p) ((gz z G F).1 35 (ii c).toNatClampNeg) (em (de c)) = _
        have e35 : (gz z G F).1 35 c = ii (gn n T A g c) := by rw [← hF c (by omega) a]; rfl
        rw [ii_nat (by omega), e35]
        exact ih m _ (by omega) (by omega)
      · rw [lm_n (fun y => b (al_s y.2))]
        exact sb (g2 b) (sp rfl (ih m _ (by omega) (by omega)))
    · have b2 : ¬ ((x2 >>> (ii c &&& 31)) &&& 1) = 1 := fun y => a ((hs c (by omega)).mp ((bt_shr (show c < 32 by omega)).mp y))
      rw [lm_n (fun y => a y.1)]
      exact sn b2 (ih m _ (by omega) (by omega))
theorem m_fe62 {z : ql_Z} {G : Nat → Int32} {k i : Nat} {x2 x4 : Int32} {k50 : ql_Z → Int32 → Int32 → Int32 → Int32 → Option (Int32 × ql_Z)} (hN : 1000 ≤ N) (h : mg z i n T A) (hi : i < 4) (hs : ∀ q, q ≤ n → (bt x2 q = true ↔ lv n T q)) (hG : ∀ q, lv n T q → G q = ii (gk n T A k q)) : ∀ j p m F, p + j = n + 1 → j + 1 ≤ m → (∀ q, q < p → lv n T q → F q = ii (gk n T A (k + 1) q)) →
    ∃ F', (∀ q, lv n T q → F' q = ii (gk n T A (k + 1) q)) ∧ f_X11_fewest_62 N k50 m (gz z G F) (ii i) x2 (ii (ct (rps n T A (k + 1)) p)) x4 (ii p) = f_X11_fewest_183 N k50 N (gz z G F') (ii i) x2 (ii (ct (rps n T A (k + 1)) (n + 1))) x4 (ii 0) := by
  have gg := h.1.1.2.1
  have hn := h.1.1.1
  have hg : ∀ q, q ≤ n → gk n T A k q ≤ 16 := fun q hq => by have := gk_le (n := n) (T := T) (A := A) k q; omega
  intro j
  induction j with
  | zero =>
    intro p m F hp hm hF
    obtain ⟨m, rfl⟩ : ∃ j, m = j + 1 := ⟨m - 1, by omega⟩
    obtain rfl : p = n + 1 := by omega
    refine ⟨F, fun q hq => hF q (by have := lv_le gg hq; omega) hq, ?_⟩
    rw [f_X11_fewest_62, ii_nat (show i < 2147483648 by omega)]
    refine sp (ii_ib (by omega) (by omega)) (sp ?_ rfl)
    rw [(mg_f h G F).2.1]
    exact lt_y (n + 1) (by omega) (by omega)
  | succ j ih =>
    intro p m F hp hm hF
    obtain ⟨m, rfl⟩ : ∃ j, m = j + 1 := ⟨m - 1, by omega⟩
    have pre : f_X11_fewest_62 N k50 (m + 1) (gz z G F) (ii i) x2 (ii (ct (rps n T A (k + 1)) p)) x4 (ii p) = f_X11_fewest_83 N k50 (f_X11_fewest_62 N k50 m) N (gz z G F) (ii i) x2 (ii (ct (rps n T A (k + 1)) p)) x4 (ii p) (ii p) (em (de p)) := by
      rw [f_X11_fewest_62, ii_nat (show i < 2147483648 by omega)]
      refine sp (ii_ib (by omega) (by omega)) (sn ?_ ?_)
      · rw [(mg_f h G F).2.1]
        exact lt_n p (by omega) (by omega)
      · rw [lk_1, em_de]
    have e140 : ∀ x, x ≤ 16 → f_X11_fewest_140 N k50 (f_X11_fewest_62 N k50 m) (gz z G F) (ii i) x2 (ii (ct (rps n T A (k + 1)) p)) x4 (ii p) (ii x) = f_X11_fewest_62 N k50 m (gz z G (upd F p (ii x))) (ii i) x2 (ii (ct (rps n T A (k + 1)) p + @ite Nat (x = p ∧ lv n T p) (Classical.propDecidable _) 1 0)) x4 (ii (p + 1)) := fun x hx => by
      unfold f_X11_fewest_140 f_X11_fewest_171 f_X11_fewest_172
      have ew : (ql_up (gz z G F).1 35 (upd ((gz z G F).1 35) (ii p).toNatClampNeg (ii x)), (gz z G F).2) = gz z G (upd F p (ii x)) := by
        rw [ii_nat (by omega)]
        show (ql_up (ql_up (ql_up z.1 34 G) 35 F) 35 (upd (ql_up (ql_up z.1 34 G) 35 F 35) p (ii x)), z.2) = _
        rw [up_up, up_same]
      rw [ew, lk_1, lk_0, ii_add, ii_add, ii_add, lk_31]
      refine sp (ii_ib (by omega) (by omega)) ?_
      have e : ii x = ii p ↔ x = p := ii_eq (by omega) (by omega)
      have b := bt_shr (x := x2) (show p < 32 by omega)
      have hsp := hs p (by omega)
      by_cases q1 : x = p
      · by_cases q2 : lv n T p
        · rw [if_pos (show x = p ∧ lv n T p from ⟨q1, q2⟩)]
          exact sp (e.mpr q1) (sp (b.mpr (hsp.mpr q2)) rfl)
        · rw [if_neg (show ¬ (x = p ∧ lv n T p) from fun y => q2 y.2)]
          exact sp (e.mpr q1) (sn (fun y => q2 (hsp.mp (b.mp y))) rfl)
      · rw [if_neg (show ¬ (x = p ∧ lv n T p) from fun y => q1 y.1)]
        exact sn (fun y => q1 (e.mp y)) rfl
    rw [pre]
    by_cases a : lv n T p
    · have r := gn_le (n := n) (T := T) (A := A) (gk n T A k) p
      rw [m_fe83 hN h hi hs hG hg hF a p N p (Nat.le_refl _) (by omega), lm_gn a, e140 _ (by omega)]
      obtain ⟨F', f1, f2⟩ := ih (p + 1) m (upd F p (ii (gn n T A (gk n T A k) p))) (by omega) (by omega) (fun q hq hl => by
        by_cases e : q = p
        · subst e; rw [ud_same]; rfl
        · rw [ud_ne e]; exact hF q (by omega) hl)
      refine ⟨F', f1, ?_⟩
      rw [← f2]
      by_cases q : gn n T A (gk n T A k) p = p
      · rw [if_pos (show gn n T A (gk n T A k) p = p ∧ lv n T p from ⟨q, a⟩), ct_s (S := rps n T A (k + 1)) ⟨a, q⟩]
      · rw [if_neg (show ¬ (gn n T A (gk n T A k) p = p ∧ lv n T p) from fun y => q y.1), ct_n (S := rps n T A (k + 1)) (fun y => q y.2)]; rfl
    · have e83 : f_X11_fewest_83 N k50 (f_X11_fewest_62 N k50 m) N (gz z G F) (ii i) x2 (ii (ct (rps n T A (k + 1)) p)) x4 (ii p) (ii p) (em (de p)) = f_X11_fewest_140 N k50 (f_X11_fewest_62 N k50 m) (gz z G F) (ii i) x2 (ii (ct (rps n T A (k + 1)) p)) x4 (ii p) (ii p) := by
        obtain ⟨t, ht⟩ : ∃ t, N = t + 1 := ⟨N - 1, by omega⟩
        have en : ∀ x7, f_X11_fewest_83 N k50 (f_X11_fewest_62 N k50 m) N (gz z G F) (ii i) x2 (ii (ct (rps n T A (k + 1)) p)) x4 (ii p) (ii p) x7 = f_X11_fewest_83 N k50 (f_X11_fewest_62 N k50 m) (t + 1) (gz z G F) (ii i) x2 (ii (ct (rps n T A (k + 1)) p)) x4 (ii p) (ii p) x7 := fun x7 => by rw [← ht]
        rw [en, f_X11_fewest_83]
        by_cases c : em (de p) < 0
        · exact sp c rfl
        · exact sn c (sn (fun y => a ((hs p (by omega)).mp ((bt_shr (show p < 32 by omega)).mp y))) rfl)
      rw [e83, e140 _ (by omega), if_neg (show ¬ (p = p ∧ lv n T p) from fun y => a y.2)]
      obtain ⟨F', f1, f2⟩ := ih (p + 1) m (upd F p (ii p)) (by omega) (by omega) (fun q hq hl => by
        by_cases e : q = p
        · subst e; exact absurd hl a
        · rw [ud_ne e]; exact hF q (by omega) hl)
      refine ⟨F', f1, ?_⟩
      rw [← f2, ct_n (S := rps n T A (k + 1)) (fun y => a y.1)]; rfl
theorem m_fe183 {z : ql_Z} {F : Nat → Int32} {i : Nat} {x2 x3 x4 : Int32} {k50 : ql_Z → Int32 → Int32 → Int32 → Int32 → Option (Int32 × ql_Z)} : ∀ j p m G, p + j = 17 → j + 1 ≤ m → (∀ q, q < p → G q = F q) →
    ∃ G', (∀ q, q < 17 → G' q = F q) ∧ f_X11_fewest_183 N k50 m (gz z G F) (ii i) x2 x3 x4 (ii p) = k50 (gz z G' F) (ii i) x2 x3 (x4 + 1) := by
  intro j
  induction j with
  | zero =>
    intro p m G hp hm hG
    obtain ⟨m, rfl⟩ : ∃ j, m = j + 1 := ⟨m - 1, by omega⟩
    obtain rfl : p = 17 := by omega
    refine ⟨G, hG, ?_⟩
    rw [f_X11_fewest_183]
    exact sp (le_y (a := 17) 17 (by omega) (by omega)) rfl
  | succ j ih =>
    intro p m G hp hm hG
    obtain ⟨m, rfl⟩ : ∃ j, m = j + 1 := ⟨m - 1, by omega⟩
    obtain ⟨G', h1, h2⟩ := ih (p + 1) m (upd G p (F p)) (by omega) (by omega) (fun q hq => by
      by_cases e : q = p
      · subst e; rw [ud_same]
      · rw [ud_ne e]; exact hG q (by omega))
    refine ⟨G', h1, ?_⟩
    rw [f_X11_fewest_183, ← h2]
    refine sn (le_n (a := 17) p (by omega) (by omega)) (sp (ii_ib (by omega) (by omega)) (sp (ii_ib (by omega) (by omega)) ?_))
    have ew : (ql_up (gz z G F).1 34 (upd ((gz z G F).1 34) (ii p).toNatClampNeg ((gz z G F).1 35 (ii p).toNatClampNeg)), (gz z G F).2) = gz z (upd G p (F p)) F := by
      rw [ii_nat (by omega)]
      show (ql_up (ql_up (ql_up z.1 34 G) 35 F) 34 (upd G p (F p)), z.2) = (ql_up (ql_up z.1 34 (upd G p (F p))) 35 F, z.2)
      refine Prod.ext ?_ rfl
      show ql_up (ql_up (ql_up z.1 34 G) 35 F) 34 (upd G p (F p)) = ql_up (ql_up z.1 34 (upd G p (F p))) 35 F
      funext s
      by_cases e : s = 34
      · subst e; rw [up_same, up_ne (by decide), up_same]
      · by_cases e' : s = 35
        · subst e'; rw [up_ne (by decide), up_same, up_same]
        · rw [up_ne e, up_ne e', up_ne e, up_ne e', up_ne e]
    rw [ew, lk_1, ii_add]
theorem m_fe50 {z : ql_Z} {i : Nat} {x2 : Int32} (hN : 1000 ≤ N) (h : mg z i n T A) (hi : i < 4) (hs : ∀ q, q ≤ n → (bt x2 q = true ↔ lv n T q)) : ∀ j k m G F x3, k + j = 18 → j + 1 ≤ m → (∀ q, lv n T q → G q = ii (gk n T A k q)) → (k = 18 → x3 = ii (ct (rps n T A 18) (n + 1))) →
    ∃ G' F', f_X11_fewest_50 N m (gz z G F) (ii i) x2 x3 (ii k) = some (ii (ct (rps n T A 18) (n + 1)), gz z G' F') := by
  have gg := h.1.1.2.1
  have hn := h.1.1.1
  intro j
  induction j with
  | zero =>
    intro k m G F x3 hk hm hG hx
    obtain ⟨m, rfl⟩ : ∃ j, m = j + 1 := ⟨m - 1, by omega⟩
    obtain rfl : k = 18 := by omega
    refine ⟨G, F, ?_⟩
    rw [f_X11_fewest_50, hx rfl]
    exact sp (lt_y (a := 17) 18 (by omega) (by omega)) rfl
  | succ j ih =>
    intro k m G F x3 hk hm hG hx
    obtain ⟨m, rfl⟩ : ∃ j, m = j + 1 := ⟨m - 1, by omega⟩
    obtain ⟨F', f1, f2⟩ := m_fe62 (N := N) (k := k) (x2 := x2) (x4 := ii k) (k50 := f_X11_fewest_50 N m) hN h hi hs hG (n + 1) 0 N F (by omega) (by omega) (fun q hq => by omega)
    obtain ⟨G', g1, g2⟩ := m_fe183 (N := N) (z := z) (F := F') (i := i) (x2 := x2) (x3 := ii (ct (rps n T A (k + 1)) (n + 1))) (x4 := ii k) (k50 := f_X11_fewest_50 N m) 17 0 N G (by omega) (by omega) (fun q hq => by omega)
    obtain ⟨G2, F2, e⟩ := ih (k + 1) m G' F' (ii (ct (rps n T A (k + 1)) (n + 1))) (by omega) (by omega) (fun q hq => by
      have := lv_le gg hq
      rw [g1 q (by omega)]; exact f1 q hq) (fun hk => by
      obtain rfl : k = 17 := by omega
      rfl)
    refine ⟨G2, F2, ?_⟩
    rw [f_X11_fewest_50]
    refine sn (lt_n (a := 17) k (by omega) (by omega)) ?_
    have f2 : f_X11_fewest_62 N (f_X11_fewest_50 N m) N (gz z G F) (ii i) x2 0 (ii k) 0 = _ := f2
    rw [f2, g2, lk_1, ii_add]
    exact e
theorem m_fe26 {z : ql_Z} {F L : Nat → Int32} {i : Nat} {x2 : Int32} : ∀ j p m, p + j = 17 → j + 1 ≤ m → f_X11_fewest_26 N m (gz z (zr p L) F) (ii i) x2 (ii p) = f_X11_fewest_50 N N (gz z (zr 17 L) F) (ii i) x2 (ii 0) (ii 0)
  | 0, p, m, hp, hm => by
    obtain ⟨m, rfl⟩ : ∃ j, m = j + 1 := ⟨m - 1, by omega⟩
    obtain rfl : p = 17 := by omega
    rw [f_X11_fewest_26]
    exact sp (le_y (a := 17) 17 (by omega) (by omega)) rfl
  | j + 1, p, m, hp, hm => by
    obtain ⟨m, rfl⟩ : ∃ j, m = j + 1 := ⟨m - 1, by omega⟩
    rw [f_X11_fewest_26]
    refine sn (le_n (a := 17) p (by omega) (by omega)) (sp (ii_ib (by omega) (by omega)) ?_)
    have ew : (ql_up (gz z (zr p L) F).1 34 (upd ((gz z (zr p L) F).1 34) (ii p).toNatClampNeg 0), (gz z (zr p L) F).2) = gz z (zr (p + 1) L) F := by
      rw [ii_nat (by omega), lk_0]
      refine Prod.ext ?_ rfl
      show ql_up (ql_up (ql_up z.1 34 (zr p L)) 35 F) 34 (upd (zr p L) p (ii 0)) = ql_up (ql_up z.1 34 (zr (p + 1) L)) 35 F
      rw [zr_s]
      funext s
      by_cases e : s = 34
      · subst e; rw [up_same, up_ne (by decide), up_same]
      · by_cases e' : s = 35
        · subst e'; rw [up_ne (by decide), up_same, up_same]
        · rw [up_ne e, up_ne e', up_ne e, up_ne e', up_ne e]
    rw [ew, lk_1, ii_add]
    exact m_fe26 j (p + 1) m (by omega) (by omega)
theorem e_fewest {v : ql_V} {z : ql_Z} (hN : 1000 ≤ N) (R : pga P z.1) (x1 : Int32) : ∃ r v' z', f_X10_fewest N P v x1 = some (r, v') ∧ f_X11_fewest N z x1 = some (r, z') ∧ fc v v' ∧ fr z z' := by
  unfold f_X10_fewest f_X10_fewest_0 f_X11_fewest f_X11_fewest_0
  rcases ip_cases N x1 with ⟨i, hi, rfl, c1, m1⟩ | ⟨c1, m1⟩
  · obtain ⟨n, T, A, ok, h6, hT, hA, hl, hq, h9, mT, mA⟩ := R i hi
    have g := ok.2.1
    have hn := ok.1
    have t1 : (ii i).toNatClampNeg = i := ii_nat (by omega)
    obtain ⟨zc, ec1⟩ := c_howMany (N := N) (P := P) (z := v.2.2.2.1) (i := i) hN (⟨⟨ok, hT, hA⟩, h6, hl, hq⟩ : cl (P i) n T A)
    have f1 := ri_bits (r := n + 1) g (show n < 32 by omega) (by omega)
    have f2 := vi_bits (r := n + 1) g (show n < 32 by omega) (by omega)
    have sf := sv_fr z (ri T n (n + 1) (ii 1)) (vi T n (n + 1) (ii 0))
    have hm : mg (sv_s z (ri T n (n + 1) (ii 1)) (vi T n (n + 1) (ii 0))) i n T A := ⟨mp_f (⟨ok, mT, mA⟩ : mp z i n T A) sf.1, by rw [sf.1 9 (by omega)]; exact h9, f2⟩
    have hs : ∀ q, q ≤ n → (bt (ri T n (n + 1) (ii 1) &&& vi T n (n + 1) (ii 0)) q = true ↔ lv n T q) := fun q hq' => by
      rw [bt_and, Bool.and_eq_true, f1 q, f2 q]
      exact ⟨fun ⟨a, b⟩ => ⟨a, b.2⟩, fun ⟨a, b⟩ => ⟨a, hq', b⟩⟩
    have ez : gz (sv_s z (ri T n (n + 1) (ii 1)) (vi T n (n + 1) (ii 0))) (z.1 34) (z.1 35) = sv_s z (ri T n (n + 1) (ii 1)) (vi T n (n + 1) (ii 0)) := by
      refine Prod.ext ?_ rfl
      show ql_up (ql_up (ql_up (ql_up z.1 32 _) 33 _) 34 (z.1 34)) 35 (z.1 35) = ql_up (ql_up z.1 32 _) 33 _
      funext s
      by_cases e : s = 35
      · subst e; rw [up_same, up_ne (by decide), up_ne (by decide)]
      · rw [up_ne e]
        by_cases e' : s = 34
        · subst e'; rw [up_same, up_ne (by decide), up_ne (by decide)]
        · rw [up_ne e']
    have e26 := m_fe26 (N := N) (z := sv_s z (ri T n (n + 1) (ii 1)) (vi T n (n + 1) (ii 0))) (F := z.1 35) (L := z.1 34) (i := i) (x2 := ri T n (n + 1) (ii 1) &&& vi T n (n + 1) (ii 0)) 17 0 N (by omega) (by omega)
    rw [zr_0, ez] at e26
    obtain ⟨G', F', e50⟩ := m_fe50 (N := N) hN hm hi hs 18 0 N (zr 17 (z.1 34)) (z.1 35) (ii 0) (by omega) (by omega) (fun q hq' => by have := lv_le g hq'; rw [zr_in (by omega)]; rfl) (fun h => by omega)
    rw [fw_k g hn (by omega)] at e50
    refine ⟨ii (fw n T A), (v.1, v.2.1, v.2.2.1, zc, v.2.2.2.2.1, v.2.2.2.2.2), gz (sv_s z (ri T n (n + 1) (ii 1)) (vi T n (n + 1) (ii 0))) G' F', ?_, ?_, ⟨rfl, rfl, rfl⟩, ?_⟩
    · rw [t1]
      exact sb c1 (sn n10 (sp (ii_ib (by omega) (by omega)) (sb ec1 rfl)))
    · refine sb m1 (sn n10 (sb (m_surveys h9 mT g hi hn hN) ?_))
      exact e26.trans e50
    · exact ⟨fun s hs' => (gz_f _ G' F' s (by omega)).trans (sf.1 s hs'), rfl⟩
  · exact ⟨-ii 1, v, z, sb c1 (sp rfl rfl), sb m1 (sp rfl rfl), fc_r v, fr_r z⟩
end
