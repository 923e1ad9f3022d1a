/-! the class's groups -/
theorem rps_h {n : Nat} {T : pw_T} {A : Nat → Nat} (g : pw_g n T) (hn : n ≤ 16) (k : Nat) (st : st_at (rps n T A) (n + 1) k) : st_at (rps n T A) (n + 1) (k + 1) := fun p hp h => by
  have e : ∀ v, lv n T v → gk n T A (k + 1) v = gk n T A k v := fun v hv => gk_st g hn st hv
  have h2 : gn n T A (gk n T A (k + 1)) p = p := h.2
  rw [gn_g e] at h2
  exact ⟨h.1, h2⟩
noncomputable def fw (n : Nat) (T : pw_T) (A : Nat → Nat) : Nat := ct (rps n T A n) (n + 1)
/-- as many groups after enough rounds, or after one that told nothing more apart -/
theorem fw_k {n k : Nat} {T : pw_T} {A : Nat → Nat} (g : pw_g n T) (hn : n ≤ 16) (hk : n ≤ k) : ct (rps n T A k) (n + 1) = fw n T A := by
  refine ct_same fun p hp => ⟨rps_all g hn k p hp, fun h => ?_⟩
  have := st_up (rps_s (A := A) g hn) (k := n) (k - n) p hp h
  rwa [show n + (k - n) = k by omega] at this
theorem fw_s {n k : Nat} {T : pw_T} {A : Nat → Nat} (g : pw_g n T) (hn : n ≤ 16) (h : ∀ p, p ≤ n → gk n T A (k + 1) p = gk n T A k p) : ct (rps n T A (k + 1)) (n + 1) = fw n T A := by
  have st : st_at (rps n T A) (n + 1) k := fun p hp x => ⟨x.1, by rw [← h p (by omega)]; exact x.2⟩
  by_cases c : n ≤ k + 1
  · exact fw_k g hn c
  · refine ct_same fun p hp => ⟨rps_all g hn _ p hp, fun x => ?_⟩
    have := st_on (rps_s (A := A) g hn) (rps_h g hn) st (n - k) p hp (by rw [show k + (n - k) = n by omega]; exact x)
    exact rps_s g hn k p hp this
def cv (x : Nat) : Int32 := if x = 0 then -ii 1 else if x = 1 then ii 0 else ii ((x - 2) / 18 * 17 + (x - 2) % 18)
def sr (x : Nat) : Prop := x = 0 ∨ x = 1 ∨ (20 ≤ x ∧ x < 74 ∧ (x - 2) % 18 ≤ 16)
theorem cv_i {x y : Nat} (hx : sr x) (hy : sr y) : cv x = cv y ↔ x = y := by
  constructor
  · intro h
    unfold cv at h
    rcases hx with rfl | rfl | ⟨a, b, b9⟩
    · rcases hy with rfl | rfl | ⟨c, d, d9⟩
      · rfl
      · rw [if_pos rfl, if_neg (by omega), if_pos rfl, ni_eq_ii (by omega) (by omega)] at h; omega
      · rw [if_pos rfl, if_neg (by omega), if_neg (by omega), ni_eq_ii (by omega) (by omega)] at h; omega
    · rcases hy with rfl | rfl | ⟨c, d, d9⟩
      · rw [if_neg (by omega), if_pos rfl, if_pos rfl, ii_eq_ni (by omega) (by omega)] at h; omega
      · rfl
      · rw [if_neg (by omega), if_pos rfl, if_neg (by omega), if_neg (by omega), ii_eq (by omega) (by omega)] at h; omega
    · rcases hy with rfl | rfl | ⟨c, d, d9⟩
      · rw [if_neg (by omega), if_neg (by omega), if_pos rfl, ii_eq_ni (by omega) (by omega)] at h; omega
      · rw [if_neg (by omega), if_neg (by omega), if_neg (by omega), if_pos rfl, ii_eq (by omega) (by omega)] at h; omega
      · rw [if_neg (by omega), if_neg (by omega), if_neg (by omega), if_neg (by omega), ii_eq (by omega) (by omega)] at h; omega
  · intro h; rw [h]
section
variable {N n : Nat} {T : pw_T} {A : Nat → Nat} {P : Nat → ql_St}
theorem sv_r {G : Nat → Nat} (ok : pw_ok n T A) (hG : ∀ p, p ≤ n → G p ≤ 16) {p a : Nat} (hp : p ≤ n) (ha : a < 4) : sr (sv n T A G p a) := by
  rcases sv_c (n := n) (T := T) (A := A) G p a with ⟨x1, _⟩ | ⟨x1, _⟩ | ⟨v, tv, lvv, x2⟩
  · exact Or.inl x1
  · exact Or.inr (Or.inl x1)
  · have h := ok.2.1 p a _ hp ha tv
    have hA := ok.2.2 (v + 1) (by omega) h
    have := hG _ h
    rw [x2]
    exact Or.inr (Or.inr (by omega))
/-- what a plan shows to the groups -/
def cl (s : ql_St) (n : Nat) (T : pw_T) (A : Nat → Nat) : Prop := cp s n T A ∧ s 6 0 = ii n ∧ (∀ p j, p ≤ n → (bt (s 8 p) j = true ↔ pD n T j p)) ∧ ∀ j, bt (s 9 0) j = true ↔ qD n T j
theorem c_trail {z : ql_St} {G : Nat → Nat} {i p a : Nat} (c : cl (P i) n T A) (hz : ∀ q, q ≤ n → z 0 q = ii (G q)) (hG : ∀ q, q ≤ n → G q ≤ 16) (hp : p ≤ n) (ha : a < 4) : f_X2_trail N P z i (ii p) (ii a) = some (cv (sv n T A G p a)) := by
  obtain ⟨⟨ok, hT, hA⟩, h6, hl, hq⟩ := c
  have hn := ok.1
  unfold f_X2_trail f_X2_trail_0
  have hv := ok.2.1 p a
  refine sb (c_goes hT hn hp ha) ?_
  cases e : T p a with
  | none =>
    rw [sv_x e]
    exact sn (fun x => by have := (ni_eq_ii (show 9 < 2147483648 by omega) (show 0 < 2147483648 by omega)).mp x; omega) (sb c_isp9 (sp rfl rfl))
  | some v => cases v with
    | zero => rw [sv_0 e]; exact sp rfl rfl
    | succ v =>
      have h := hv _ hp ha e
      have hA' := ok.2.2 (v + 1) (by omega) h
      have hg := hG _ h
      obtain ⟨l1, l2⟩ := c_isLive (N := N) h6 hn h hl hq
      have nz : ¬ ii (v + 1) = (0 : Int32) := fun x => by have := (ii_eq (b := 0) (show v + 1 < 2147483648 by omega) (by omega)).mp x; omega
      by_cases q : lv n T (v + 1)
      · rw [sv_l e q]
        refine sn nz (sb (c_isp h6 hn (by omega) h) (sn n10 (sb (l1 q) (sn n10 (sb (c_aa h6 hn (by omega) h) (sp (ii_ib (by omega) (by omega)) ?_))))))
        show some (P i 5 (v + 1) * 17 + z 0 (ii (v + 1)).toNatClampNeg) = _
        rw [ii_nat (by omega), hA (v + 1) (by omega) h, hz _ h, lk_17, ii_mul, ii_add]
        unfold cv
        rw [if_neg (by omega), if_neg (by omega), show (2 + (A (v + 1) * 18 + G (v + 1)) - 2) / 18 = A (v + 1) by omega, show (2 + (A (v + 1) * 18 + G (v + 1)) - 2) % 18 = G (v + 1) by omega]
      · rw [sv_n e q]
        exact sn nz (sb (c_isp h6 hn (by omega) h) (sn n10 (sb (l2 q) (sp rfl rfl))))
theorem c_goAlike {z : ql_St} {G : Nat → Nat} {i p q : Nat} (hN : 1000 ≤ N) (c : cl (P i) n T A) (hz : ∀ q, q ≤ n → z 0 q = ii (G q)) (hG : ∀ q, q ≤ n → G q ≤ 16) (hp : p ≤ n) (hq : q ≤ n) :
    (al n T A G p q → f_X2_goAlike N P z i (ii p) (ii q) = some (ii 1)) ∧ (¬ al n T A G p q → f_X2_goAlike N P z i (ii p) (ii q) = some (ii 0)) := by
  have ok := c.1.1
  have st : ∀ a m, a < 4 → (sv n T A G p a = sv n T A G q a → f_X2_goAlike_3 N P z (m + 1) i (ii p) (ii q) (ii a) = f_X2_goAlike_3 N P z m i (ii p) (ii q) (ii (a + 1))) ∧ (¬ sv n T A G p a = sv n T A G q a → f_X2_goAlike_3 N P z (m + 1) i (ii p) (ii q) (ii a) = some (ii 0)) := fun a m ha => by
    have r := cv_i (sv_r ok hG hp ha) (sv_r ok hG hq ha)
    rw [f_X2_goAlike_3]
    refine ⟨fun h => ?_, fun h => ?_⟩
    · refine sn (le_n (a := 4) a (by omega) (by omega)) (sb (c_trail c hz hG hp ha) (sb (c_trail c hz hG hq ha) (sp (r.mpr h) ?_)))
      rw [lk_1, ii_add]
    · exact sn (le_n (a := 4) a (by omega) (by omega)) (sb (c_trail c hz hG hp ha) (sb (c_trail c hz hG hq ha) (sn (fun x => h (r.mp x)) rfl)))
  unfold f_X2_goAlike f_X2_goAlike_0
  obtain ⟨j, hj⟩ : ∃ j, N = j + 5 := ⟨N - 5, by omega⟩
  have en : f_X2_goAlike_3 N P z N i (ii p) (ii q) 0 = f_X2_goAlike_3 N P z (j + 5) i (ii p) (ii q) (ii 0) := by rw [← hj]; rfl
  rw [en]
  by_cases h0 : sv n T A G p 0 = sv n T A G q 0
  · rw [(st 0 _ (by omega)).1 h0]
    by_cases h1 : sv n T A G p 1 = sv n T A G q 1
    · rw [(st 1 _ (by omega)).1 h1]
      by_cases h2 : sv n T A G p 2 = sv n T A G q 2
      · rw [(st 2 _ (by omega)).1 h2]
        by_cases h3 : sv n T A G p 3 = sv n T A G q 3
        · rw [(st 3 _ (by omega)).1 h3]
          have yes : al n T A G p q := fun a ha => by
            rcases (show a = 0 ∨ a = 1 ∨ a = 2 ∨ a = 3 by omega) with rfl | rfl | rfl | rfl
            · exact h0
            · exact h1
            · exact h2
            · exact h3
          refine ⟨fun _ => ?_, fun h => absurd yes h⟩
          rw [f_X2_goAlike_3]
          exact sp (le_y (a := 4) 4 (by omega) (by omega)) rfl
        · exact ⟨fun h => absurd (h 3 (by omega)) h3, fun _ => (st 3 _ (by omega)).2 h3⟩
      · exact ⟨fun h => absurd (h 2 (by omega)) h2, fun _ => (st 2 _ (by omega)).2 h2⟩
    · exact ⟨fun h => absurd (h 1 (by omega)) h1, fun _ => (st 1 _ (by omega)).2 h1⟩
  · exact ⟨fun h => absurd (h 0 (by omega)) h0, fun _ => (st 0 _ (by omega)).2 h0⟩
theorem c_firstLike {z : ql_St} {G : Nat → Nat} {i p : Nat} (hN : 1000 ≤ N) (c : cl (P i) n T A) (hz : ∀ q, q ≤ n → z 0 q = ii (G q)) (hG : ∀ q, q ≤ n → G q ≤ 16) (hp : p ≤ n) : f_X2_firstLike N P z i (ii p) = some (ii (gn n T A G p)) := by
  have hn := c.1.1.1
  have go : ∀ f q m, q + f = p → f + 1 ≤ m → f_X2_firstLike_2 N P z m i (ii p) (ii q) = some (ii (gs n T A G p f q)) := by
    intro f
    induction f with
    | zero =>
      intro q m hq hm
      obtain ⟨m, rfl⟩ : ∃ j, m = j + 1 := ⟨m - 1, by omega⟩
      rw [f_X2_firstLike_2]
      exact sp (le_y q (by omega) (by omega)) rfl
    | succ f ih =>
      intro q m hq hm
      obtain ⟨m, rfl⟩ : ∃ j, m = j + 1 := ⟨m - 1, by omega⟩
      obtain ⟨l1, l2⟩ := c_isLive (N := N) (s := P i) c.2.1 hn (show q ≤ n by omega) c.2.2.1 c.2.2.2
      obtain ⟨g1, g2⟩ := c_goAlike (N := N) (z := z) hN c hz hG (show q ≤ n by omega) hp
      have ih := ih (q + 1) m (by omega) (by omega)
      rw [f_X2_firstLike_2]
      unfold f_X2_firstLike_27
      rw [lk_1, ii_add, ih]
      refine sn (le_n q (by omega) (by omega)) ?_
      by_cases a : lv n T q
      · by_cases b : al n T A G q p
        · rw [gs_p ⟨a, b⟩]
          exact sb (l1 a) (sn n10 (sb (g1 b) (sn n10 rfl)))
        · rw [gs_n (fun x => b x.2)]
          exact sb (l1 a) (sn n10 (sb (g2 b) (sp rfl rfl)))
      · rw [gs_n (fun x => a x.1)]
        exact sb (l2 a) (sp rfl rfl)
  unfold f_X2_firstLike f_X2_firstLike_0
  exact go p 0 N (by omega) (by omega)
theorem c_refine4 {z : ql_St} {G : Nat → Nat} {i : Nat} (hN : 1000 ≤ N) (c : cl (P i) n T A) (hz : ∀ q, q ≤ n → z 0 q = ii (G q)) (hG : ∀ q, q ≤ n → G q ≤ 16) : ∀ j p m F x2, p + j = n + 1 → j + 1 ≤ m → (∀ q, q < p → F q = ii (gn n T A G q)) → ((x2 = ii 0 ∧ ∀ q, q < p → gn n T A G q = G q) ∨ x2 = ii 1) →
    ∃ r z', f_X2_refine_4 N P m (ql_up z 1 F) i x2 (ii p) = some (r, z') ∧ ((r = ii 0 ∧ ∀ q, q ≤ n → gn n T A G q = G q) ∨ r = ii 1) ∧ ∀ q, q ≤ n → z' 0 q = ii (gn n T A G q) := by
  have hn := c.1.1.1
  have h6 := c.2.1
  intro j
  induction j with
  | zero =>
    intro p m F x2 hp hm hF hx
    obtain ⟨m, rfl⟩ : ∃ j, m = j + 1 := ⟨m - 1, by omega⟩
    have ig : ql_ig (ii (n + 1)) 17 = true := by
      have h0 : ¬ (ii (n + 1) < 0) := nl0 (by omega)
      unfold ql_ig
      rw [ii_nat (by omega), decide_eq_false h0, decide_eq_true (show n + 1 ≤ 17 by omega)]; rfl
    have bz : ql_bz x2 = true := by
      rcases hx with ⟨rfl, _⟩ | rfl
      · exact bz_0
      · exact bz_1
    refine ⟨x2, ql_up (ql_up z 1 F) 0 (va_cpy F (z 0) 0 0 (n + 1)), ?_, ?_, fun q hq => ?_⟩
    · rw [f_X2_refine_4, h6, lk_1, ii_add]
      refine sp (lt_y p (by omega) (by omega)) (sp ig (sp bz ?_))
      rw [ii_nat (by omega)]; rfl
    · rcases hx with ⟨rfl, h⟩ | rfl
      · exact Or.inl ⟨rfl, fun q hq => h q (by omega)⟩
      · exact Or.inr rfl
    · rw [up_same]
      show (if 0 ≤ q ∧ q < 0 + (n + 1) then F (0 + (q - 0)) else z 0 q) = _
      rw [if_pos ⟨by omega, by omega⟩, show 0 + (q - 0) = q by omega]
      exact hF q (by omega)
  | succ j ih =>
    intro p m F x2 hp hm hF hx
    obtain ⟨m, rfl⟩ : ∃ j, m = j + 1 := ⟨m - 1, by omega⟩
    have hp' : p ≤ n := by omega
    have fl := c_firstLike (N := N) (z := ql_up z 1 F) hN c (by rw [up_ne (by decide)]; exact hz) hG hp'
    have hgp := gn_le (n := n) (T := T) (A := A) G p
    have hGp := hG p hp'
    have hF' : ∀ q, q < p + 1 → upd F p (ii (gn n T A G p)) q = ii (gn n T A G q) := fun q hq => by
      by_cases e : q = p
      · subst e; rw [ud_same]
      · rw [ud_ne e]; exact hF q (by omega)
    have key : f_X2_refine_4 N P (m + 1) (ql_up z 1 F) i x2 (ii p) = f_X2_refine_4 N P m (ql_up z 1 (upd F p (ii (gn n T A G p)))) i (x2 ||| if gn n T A G p = G p then ii 0 else ii 1) (ii (p + 1)) := by
      rw [f_X2_refine_4, h6]
      unfold f_X2_refine_45
      refine sn (lt_n p (by omega) (by omega)) (sb fl (sp (ii_ib (by omega) (by omega)) (sp (ii_ib (by omega) (by omega)) (sp (ii_ib (by omega) (by omega)) ?_))))
      rw [ii_nat (show p < 2147483648 by omega), ud_same, up_ne (show (0 : Nat) ≠ 1 by decide), hz p hp', up_same, up_up, lk_1, ii_add, lk_0]
      have e : ii (gn n T A G p) = ii (G p) ↔ gn n T A G p = G p := ii_eq (by omega) (by omega)
      by_cases q : gn n T A G p = G p
      · rw [if_pos (e.mpr q), if_pos q]
      · rw [if_neg (fun x => q (e.mp x)), if_neg q]
    rw [key]
    have o00 : ii 0 ||| ii 0 = ii 0 := by decide
    have o01 : ii 0 ||| ii 1 = ii 1 := by decide
    have o10 : ii 1 ||| ii 0 = ii 1 := by decide
    have o11 : ii 1 ||| ii 1 = ii 1 := by decide
    refine ih (p + 1) m _ _ (by omega) (by omega) hF' ?_
    by_cases q : gn n T A G p = G p
    · rw [if_pos q]
      rcases hx with ⟨rfl, h⟩ | rfl
      · exact Or.inl ⟨o00, fun q' hq' => by
          by_cases e : q' = p
          · subst e; exact q
          · exact h q' (by omega)⟩
      · exact Or.inr o10
    · rw [if_neg q]
      rcases hx with ⟨rfl, h⟩ | rfl
      · exact Or.inr o01
      · exact Or.inr o11
theorem c_hm52 {z : ql_St} {i k : Nat} (hN : 1000 ≤ N) (c : cl (P i) n T A) (hz : ∀ q, q ≤ n → z 0 q = ii (gk n T A k q)) : ∀ j p m, p + j = n + 1 → j + 1 ≤ m →
    f_X2_howMany_52 N P m z i (ii (ct (rps n T A k) p)) (ii p) = some (ii (ct (rps n T A k) (n + 1)), z) := by
  have hn := c.1.1.1
  have h6 := c.2.1
  intro j
  induction j with
  | zero =>
    intro p m hp hm
    obtain ⟨m, rfl⟩ : ∃ j, m = j + 1 := ⟨m - 1, by omega⟩
    obtain rfl : p = n + 1 := by omega
    rw [f_X2_howMany_52, h6]
    exact sp (lt_y (n + 1) (by omega) (by omega)) rfl
  | succ j ih =>
    intro p m hp hm
    obtain ⟨m, rfl⟩ : ∃ j, m = j + 1 := ⟨m - 1, by omega⟩
    obtain ⟨l1, l2⟩ := c_isLive (N := N) (s := P i) c.2.1 hn (show p ≤ n by omega) c.2.2.1 c.2.2.2
    have ih := ih (p + 1) m (by omega) (by omega)
    have hgk := gk_le (n := n) (T := T) (A := A) k p
    rw [f_X2_howMany_52, h6]
    unfold f_X2_howMany_83 f_X2_howMany_84
    rw [lk_1, lk_0, ii_add, ii_add, ii_add, ii_nat (show p < 2147483648 by omega), hz p (by omega)]
    refine sn (lt_n p (by omega) (by omega)) ?_
    have e : ii (gk n T A k p) = ii p ↔ gk n T A k p = p := ii_eq (by omega) (by omega)
    by_cases a : lv n T p
    · by_cases b : gk n T A k p = p
      · rw [ct_s (S := rps n T A k) ⟨a, b⟩] at ih
        exact sb (l1 a) (sn n10 (sp (ii_ib (by omega) (by omega)) (sp (e.mpr b) ih)))
      · rw [ct_n (S := rps n T A k) (fun x => b x.2)] at ih
        exact sb (l1 a) (sn n10 (sp (ii_ib (by omega) (by omega)) (sn (fun x => b (e.mp x)) ih)))
    · rw [ct_n (S := rps n T A k) (fun x => a x.1)] at ih
      exact sb (l2 a) (sp rfl ih)
theorem c_hm48 {z : ql_St} {i k : Nat} (hN : 1000 ≤ N) (c : cl (P i) n T A) (hz : ∀ q, q ≤ n → z 0 q = ii (gk n T A k q)) : f_X2_howMany_48 N P z i = some (ii (ct (rps n T A k) (n + 1)), z) := by
  have hn := c.1.1.1
  unfold f_X2_howMany_48
  exact c_hm52 hN c hz (n + 1) 0 N (by omega) (by omega)
theorem c_hm25 {i : Nat} (hN : 1000 ≤ N) (c : cl (P i) n T A) : ∀ j k m z, k + j = 17 → j + 1 ≤ m → (∀ q, q ≤ n → z 0 q = ii (gk n T A k q)) → ∃ z', f_X2_howMany_25 N P m z i (ii k) = some (ii (fw n T A), z') := by
  have hn := c.1.1.1
  have g := c.1.1.2.1
  intro j
  induction j with
  | zero =>
    intro k m z hk hm hz
    obtain ⟨m, rfl⟩ : ∃ j, m = j + 1 := ⟨m - 1, by omega⟩
    refine ⟨z, ?_⟩
    rw [f_X2_howMany_25, c_hm48 hN c hz, fw_k g hn (by omega)]
    exact sp (lt_y (a := 16) k (by omega) (by omega)) rfl
  | succ j ih =>
    intro k m z hk hm hz
    obtain ⟨m, rfl⟩ : ∃ j, m = j + 1 := ⟨m - 1, by omega⟩
    obtain ⟨r, z', f, hr, hz'⟩ := c_refine4 (N := N) (z := z) (G := gk n T A k) hN c hz (fun q hq => by have := gk_le (n := n) (T := T) (A := A) k q; omega) (n + 1) 0 N (z 1) (ii 0) (by omega) (by omega) (fun q hq => by omega) (Or.inl ⟨rfl, fun q hq => by omega⟩)
    rw [up_self] at f
    have f' : f_X2_refine N P z i = some (r, z') := f
    have ne : ¬ (16 : Int32) < ii k := lt_n (a := 16) k (by omega) (by omega)
    rcases hr with ⟨rfl, h⟩ | rfl
    · refine ⟨z', ?_⟩
      rw [f_X2_howMany_25]
      refine sn ne (sb f' (sp rfl ?_))
      show f_X2_howMany_48 N P z' i = _
      rw [c_hm48 (k := k + 1) hN c hz', fw_s g hn h]
    · obtain ⟨z2, e2⟩ := ih (k + 1) m z' (by omega) (by omega) hz'
      refine ⟨z2, ?_⟩
      rw [f_X2_howMany_25]
      refine sn ne (sb f' (sn n10 ?_))
      rw [lk_1, ii_add]; exact e2
theorem c_hm2 {z : ql_St} {L : Nat → Int32} {i : Nat} (hn : n ≤ 16) (h6 : P i 6 0 = ii n) : ∀ j p m, p + j = n + 1 → j + 1 ≤ m → f_X2_howMany_2 N P m (ql_up z 0 (zr p L)) i (ii p) = f_X2_howMany_25 N P N (ql_up z 0 (zr (n + 1) L)) i (ii 0)
  | 0, p, m, hp, hm => by
    obtain ⟨m, rfl⟩ : ∃ j, m = j + 1 := ⟨m - 1, by omega⟩
    obtain rfl : p = n + 1 := by omega
    rw [f_X2_howMany_2, h6, lk_0]
    exact sp (lt_y (n + 1) (by omega) (by omega)) rfl
  | j + 1, p, m, hp, hm => by
    obtain ⟨m, rfl⟩ : ∃ j, m = j + 1 := ⟨m - 1, by omega⟩
    rw [f_X2_howMany_2, h6, lk_0]
    refine sn (lt_n p (by omega) (by omega)) (sp (ii_ib (by omega) (by omega)) ?_)
    rw [ii_nat (by omega), up_same, up_up, zr_s, lk_1, ii_add]
    exact c_hm2 hn h6 j (p + 1) m (by omega) (by omega)
theorem c_howMany {z : ql_St} {i : Nat} (hN : 1000 ≤ N) (c : cl (P i) n T A) : ∃ z', f_X2_howMany N P z i = some (ii (fw n T A), z') := by
  have hn := c.1.1.1
  unfold f_X2_howMany f_X2_howMany_0
  have q := c_hm2 (N := N) (z := z) (L := z 0) hn c.2.1 (n + 1) 0 N (by omega) (by omega)
  rw [zr_0, up_self] at q
  rw [lk_0, q]
  exact c_hm25 hN c 17 0 N _ (by omega) (by omega) (fun q hq => by rw [up_same, zr_in (by omega)]; rfl)
end
