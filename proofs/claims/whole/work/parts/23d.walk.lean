/-! the reference's walks; lets and walk on both sides -/
section
variable {N n : Nat} {T : pw_T} {A : Nat → Nat} {P : Nat → ql_St} {v : ql_V} {z0 : ql_Z}
theorem m_wk76 {i t r : Nat} (p : mp z0 i n T A) (hi : i < 4) (ht : t ≤ 12) (hr : r < 4 * 12 ^ t) : ∀ q j m z pl, j + q = t → q + 1 ≤ m → pl ≤ n → fr z0 z → z.1 39 0 = ii j →
    ∃ z', fr z0 z' ∧ z'.1 39 0 = ii (wr T A (dg r t) q j (T pl (dg r t j % 4))).1 ∧ z'.1 40 0 = em (wr T A (dg r t) q j (T pl (dg r t j % 4))).2 ∧
      f_X11_walks_76 N m z (ii i) (ii t) (ll (12 ^ (t - j))) (ii pl) (ll (lf r t j)) = some (ii 1, z') := by
  have hn := p.1.1
  have big : 4 * 12 ^ t < 9223372036854775808 := by have := p12le ht; omega
  intro q
  induction q with
  | zero =>
    intro j m z pl hj hm hpl hf h39
    obtain ⟨m, rfl⟩ : ∃ j, m = j + 1 := ⟨m - 1, by omega⟩
    obtain rfl : j = t := by omega
    have hd := dg_lt (k := j) hr
    have pz := mp_f p hf.1
    have hl := lf_le (r := r) (t := j) (j := j)
    have ea : (ll (lf r j j) / ll (12 ^ (j - j))).toInt32 = ii (dg r j j) := by
      rw [ll_div (by omega) (by have := p12le (k := j - j) (by omega); omega), lf_d (Nat.le_refl _), ll_ii]
    have e1 : ii (dg r j j) - ii (dg r j j) / 4 * 4 = ii (dg r j j % 4) := by
      rw [lk_4, ii_div (by omega) (by omega), ii_mul, ii_sub (by omega), show dg r j j - dg r j j / 4 * 4 = dg r j j % 4 by omega]
    refine ⟨(ql_up z.1 40 (fun _ => em (T pl (dg r j j % 4))), z.2), ⟨fun s hs => ?_, hf.2⟩, ?_, ?_, ?_⟩
    · show ql_up z.1 40 _ s = z0.1 s
      rw [up_ne (by omega)]; exact hf.1 s hs
    · exact h39
    · rfl
    · rw [f_X11_walks_76, ea, e1, h39]
      have ne : decide (¬ ll (12 ^ (j - j)) = 0) = true := by
        refine decide_eq_true (fun x => ?_)
        have x : ll (12 ^ (j - j)) = ll 0 := x
        rw [Nat.sub_self, Nat.pow_zero, ll_eq (by omega) (by omega)] at x
        omega
      refine sp ne (sp ne (sb (m_to pz.2.1 hi hn hpl (by omega)) ?_))
      by_cases c : em (T pl (dg r j j % 4)) ≤ 0
      · exact sp c rfl
      · exact sn c (sp rfl rfl)
  | succ q ih =>
    intro j m z pl hj hm hpl hf h39
    obtain ⟨m, rfl⟩ : ∃ j, m = j + 1 := ⟨m - 1, by omega⟩
    have hd := dg_lt (k := j) hr
    have hd1 := dg_lt (k := j + 1) hr
    have pz := mp_f p hf.1
    have hl := lf_le (r := r) (t := t) (j := j)
    have hl1 := lf_le (r := r) (t := t) (j := j + 1)
    have b1 := p12le (k := t - j) (by omega)
    have b2 := p12le (k := t - (j + 1)) (by omega)
    have c1 := p12 (t - j)
    have c2 := p12 (t - (j + 1))
    have ea : (ll (lf r t j) / ll (12 ^ (t - j))).toInt32 = ii (dg r t j) := by
      rw [ll_div (by omega) (by omega), lf_d (by omega), ll_ii]
    have e1 : ii (dg r t j) - ii (dg r t j) / 4 * 4 = ii (dg r t j % 4) := by
      rw [lk_4, ii_div (by omega) (by omega), ii_mul, ii_sub (by omega), show dg r t j - dg r t j / 4 * 4 = dg r t j % 4 by omega]
    have el : ll (lf r t j) - ll (lf r t j) / ll (12 ^ (t - j)) * ll (12 ^ (t - j)) = ll (lf r t (j + 1)) := by
      rw [ll_div (by omega) (by omega), ll_mul, ll_sub (Nat.div_mul_le_self _ _), ← lf_m (show j < t by omega)]
      congr 1
      have := Nat.div_add_mod (lf r t j) (12 ^ (t - j))
      rw [Nat.mul_comm] at this
      omega
    have ew : ll (12 ^ (t - j)) / 12 = ll (12 ^ (t - (j + 1))) := by
      rw [ll_12, ll_div (by omega) (by omega), show t - j = t - (j + 1) + 1 by omega, p12s, Nat.mul_div_cancel_left _ (by omega)]
    have ed : (ll (lf r t (j + 1)) / ll (12 ^ (t - (j + 1)))).toInt32 = ii (dg r t (j + 1)) := by
      rw [ll_div (by omega) (by omega), lf_d (by omega), ll_ii]
    have ne : ∀ k, k ≤ 12 → decide (¬ ll (12 ^ k) = 0) = true := fun k hk => by
      refine decide_eq_true (fun x => ?_)
      have x : ll (12 ^ k) = ll 0 := x
      have b := p12le hk
      have := p12 k
      rw [ll_eq (by omega) (by omega)] at x
      omega
    have stop : ∀ o, T pl (dg r t j % 4) = o → ∃ z', fr z0 z' ∧ z'.1 39 0 = ii j ∧ z'.1 40 0 = em o ∧ (ql_up z.1 40 (fun _ => em o), z.2) = z' := fun o ho => by
      exact ⟨(ql_up z.1 40 (fun _ => em o), z.2), ⟨fun s hs => (up_ne (S := z.1) (k := 40) (by omega)).trans (hf.1 s hs), hf.2⟩, h39, rfl, rfl⟩
    rw [f_X11_walks_76, ea, e1, h39, el, ew, ed, lk_0, lk_1, lk_4]
    have hv := p.1.2.1 pl (dg r t j % 4)
    have gm := m_to (N := N) pz.2.1 hi hn hpl (show dg r t j % 4 < 4 by omega)
    cases e : T pl (dg r t j % 4) with
    | none =>
      rw [e] at gm
      obtain ⟨z', s1, s2, s3, s4⟩ := stop none e
      exact ⟨z', s1, s2, s3, sp (ne _ (by omega)) (sp (ne _ (by omega)) (sb gm (sp ((ni_le_ii (by omega) (by omega)).mpr trivial) (by rw [← s4]))))⟩
    | some u => cases u with
      | zero =>
        rw [e] at gm
        obtain ⟨z', s1, s2, s3, s4⟩ := stop (some 0) e
        exact ⟨z', s1, s2, s3, sp (ne _ (by omega)) (sp (ne _ (by omega)) (sb gm (sp ((ii_le (by omega) (by omega)).mpr (Nat.le_refl _)) (by rw [← s4]))))⟩
      | succ u =>
        rw [e] at gm
        have hu := hv _ hpl (by omega) e
        have hAu := p.1.2.2 (u + 1) (by omega) hu
        have pz' : mp (ql_up z.1 40 (fun _ => ii (u + 1)), z.2) i n T A := mp_f p (fun s hs => by
          show ql_up z.1 40 _ s = z0.1 s
          rw [up_ne (by omega)]; exact hf.1 s hs)
        have ga := m_actOf (N := N) pz'.2.2 hi hn (show 0 < u + 1 by omega) hu
        have en : ¬ ii j = ii t := fun x => by have := (ii_eq (by omega) (by omega)).mp x; omega
        have el0 : ¬ ii (u + 1) ≤ ii 0 := fun x => by have := (ii_le (by omega) (by omega)).mp x; omega
        have ea : ii (A (u + 1)) = ii (dg r t (j + 1) / 4 + 1) ↔ A (u + 1) = dg r t (j + 1) / 4 + 1 := ii_eq (by omega) (by omega)
        have e4 : ii (dg r t (j + 1)) / ii 4 + ii 1 = ii (dg r t (j + 1) / 4 + 1) := by rw [ii_div (by omega) (by omega), ii_add]
        unfold wr
        by_cases c : A (u + 1) = dg r t (j + 1) / 4 + 1
        · simp only [if_pos c]
          obtain ⟨z', s1, s2, s3, s4⟩ := ih (j + 1) m (ql_up (ql_up z.1 39 (fun _ => ii (j + 1))) 40 (fun _ => ii (u + 1)), z.2) (u + 1) (by omega) (by omega) hu ⟨fun s hs => ((up_ne (S := ql_up z.1 39 (fun _ => ii (j + 1))) (k := 40) (by omega)).trans (up_ne (by omega))).trans (hf.1 s hs), hf.2⟩ rfl
          refine ⟨z', s1, s2, s3, sp (ne _ (by omega)) (sp (ne _ (by omega)) (sb gm (sn el0 (sn en (sb ga (sp (ne _ (by omega)) (sp ?_ ?_)))))))⟩
          · rw [e4]; exact ea.mpr c
          · rw [ii_add]; exact s4
        · simp only [if_neg c]
          obtain ⟨z', s1, s2, s3, s4⟩ := stop (some (u + 1)) e
          refine ⟨z', s1, s2, s3, sp (ne _ (by omega)) (sp (ne _ (by omega)) (sb gm (sn el0 (sn en (sb ga (sp (ne _ (by omega)) (sn ?_ ?_)))))))⟩
          · rw [e4]; exact fun x => c (ea.mp x)
          · rw [← s4]
theorem m_wk27 {z : ql_Z} {i t : Nat} {x3 : Int64} (ht : t ≤ 12) : ∀ q k m, k + q = t → q + 1 ≤ m →
    f_X11_walks_27 N m z (ii i) (ii t) x3 (ll (12 ^ k)) (ii k) = ((f_X11_in N x3 0 (ll (4 * 12 ^ t - 1))).bind fun u7 => if u7 = 0 then some (0, z) else f_X11_walks_76 N N (ql_up z.1 39 (fun _ => 0), z.2) (ii i) (ii t) (ll (12 ^ t)) 0 x3) := by
  intro q
  induction q with
  | zero =>
    intro k m hk hm
    obtain ⟨m, rfl⟩ : ∃ j, m = j + 1 := ⟨m - 1, by omega⟩
    obtain rfl : k = t := by omega
    rw [f_X11_walks_27]
    refine sp ((ii_le (by omega) (by omega)).mpr (Nat.le_refl _)) ?_
    have e : (4 : Int64) * ll (12 ^ k) - 1 = ll (4 * 12 ^ k - 1) := by
      have := p12 k
      rw [show (4 : Int64) = ll 4 from rfl, show (1 : Int64) = ll 1 from rfl, ll_mul, ll_sub (by omega)]
    rw [e]
  | succ q ih =>
    intro k m hk hm
    obtain ⟨m, rfl⟩ : ∃ j, m = j + 1 := ⟨m - 1, by omega⟩
    rw [f_X11_walks_27]
    refine sn (le_n k (by omega) (by omega)) ?_
    rw [ll_12, ll_mul, Nat.mul_comm, ← p12s, lk_1, ii_add]
    exact ih (k + 1) m (by omega) (by omega)
theorem m_inl {N : Nat} {x : Int64} {b : Nat} (hb : b < 9223372036854775808) : (x < ll 0 → f_X11_in N x 0 (ll b) = some (ii 0)) ∧ (∀ r, r < 9223372036854775808 → x = ll r → (b < r → f_X11_in N x 0 (ll b) = some (ii 0)) ∧ (r ≤ b → f_X11_in N x 0 (ll b) = some (ii 1))) := by
  unfold f_X11_in f_X11_in_0
  refine ⟨fun h => sp ((lc_lt x (ll 0)).mpr h) rfl, fun r hr e => ⟨fun h => ?_, fun h => ?_⟩⟩
  · subst e
    refine sn (fun x => ?_) (sp ((lc_gt _ _).mpr ((ll_lt hb hr).mpr h)) rfl)
    have := (lc_lt (ll r) (ll 0)).mp x
    rw [ll_lt hr (by omega)] at this; omega
  · subst e
    refine sn (fun x => ?_) (sn (fun x => ?_) rfl)
    · have := (lc_lt (ll r) (ll 0)).mp x
      rw [ll_lt hr (by omega)] at this; omega
    · have := (lc_gt (ll r) (ll b)).mp x
      rw [ll_lt hb hr] at this; omega
/-- both walks at once -/
theorem e_wk {z : ql_Z} (hN : 1000 ≤ N) (R : pga P z.1) {i : Nat} (hi : i < 4) (x2 : Int32) (x3 : Int64) :
    (∃ v' z' j o t, x2 = ii t ∧ t ≤ 12 ∧ (∀ u, o = some u → u ≤ 16) ∧ ((f_X10_takeRow N P v x2 x3).bind fun u3 => if u3.1 = 0 then some ((-1 : Int32), u3.2) else if ql_ib (ii i) 4 = true then (f_X10_follow N P u3.2 i x2).bind fun u6 => some (1, u6) else none) = some (1, v') ∧ f_X11_walks N z (ii i) x2 x3 = some (ii 1, z') ∧ fc v v' ∧ fr z z' ∧ v'.1 12 0 = ii j ∧ v'.1 13 0 = ec o ∧ z'.1 39 0 = ii j ∧ z'.1 40 0 = em o ∧ j ≤ t ∧
      ∃ D', f_X10_takeRow N P v x2 x3 = some (ii 1, tv v D') ∧ f_X10_follow N P (tv v D') i x2 = some v') ∨
    (∃ D' , f_X10_takeRow N P v x2 x3 = some (ii 0, tv v D') ∧ f_X11_walks N z (ii i) x2 x3 = some (ii 0, z)) := by
  obtain ⟨n, T, A, ok, h6, hT, hA, _, _, h9, mT, mA⟩ := R i hi
  have hn := ok.1
  have ip : f_X11_isProgram N (ii i) = some (ii 1) := by
    rcases ip_cases N (ii i) with ⟨k, hk, e, c1, m1⟩ | ⟨c1, m1⟩
    · exact m1
    · exfalso
      unfold f_X10_isProgram f_X10_isProgram_0 at c1
      rw [if_neg (nl0 (by omega)), if_neg (show ¬ (4 : Int32) ≤ ii i from le_n (a := 4) i (by omega) (by omega))] at c1
      exact n10 (Option.some.inj c1)
  unfold f_X11_walks f_X11_walks_0
  rw [lo_12]
  rcases c_take (N := N) (P := P) (v := v) x2 x3 hN with ⟨t, r, D', ht, hr, rfl, rfl, hD, ft⟩ | ⟨hx, D', ft⟩
  · have big : 4 * 12 ^ t < 9223372036854775808 := by have := p12le ht; omega
    have pos := p12 t
    have d0 : dg r t 0 < 4 := by
      unfold dg; rw [if_pos rfl]
      exact (Nat.div_lt_iff_lt_mul pos).mpr hr
    have in12 : f_X11_in N (ii t).toInt64 0 (ii 12).toInt64 = some (ii 1) := by
      rcases m_rng N (ii t) 12 (by omega) with ⟨k, hk, e, q⟩ | ⟨hx, q⟩
      · exact q
      · exfalso
        rcases hx with hx | ⟨k, hk, hk', e⟩
        · have := (ii_lt (by omega) (by omega)).mp hx; omega
        · have := (ii_eq (by omega) hk').mp e; omega
    obtain ⟨z', s1, s2, s3, s4⟩ := m_wk76 (N := N) (z0 := z) (p := (⟨ok, mT, mA⟩ : mp z i n T A)) hi ht hr t 0 N (ql_up z.1 39 (fun _ => 0), z.2) 0 (by omega) (by omega) (Nat.zero_le _) ⟨fun s hs => by
      show ql_up z.1 39 _ s = z.1 s
      rw [up_ne (by omega)], rfl⟩ (by show ql_up z.1 39 _ 39 0 = _; rw [up_same]; rfl)
    have ho : ∀ u, T 0 (dg r t 0 % 4) = some u → u ≤ n := fun u hu => ok.2.1 0 _ u (Nat.zero_le _) (by omega) hu
    have f22 := c_fo22 (N := N) (v := v) hT hA ok ht hr hD t 0 N (T 0 (dg r t 0 % 4)) (by omega) (by omega) ho
    have ff : f_X10_follow N P (tv v D') i (ii t) = some (fv v D' (ii (wr T A (dg r t) t 0 (T 0 (dg r t 0 % 4))).1) (ec (wr T A (dg r t) t 0 (T 0 (dg r t 0 % 4))).2)) := by
      unfold f_X10_follow f_X10_follow_0
      have e9 : (tv v D').1 9 0 = ii (dg r t 0 % 4) := by
        show ql_up v.1 9 D' 9 0 = _
        rw [up_same, hD 0 (Nat.zero_le _), Nat.mod_eq_of_lt d0]
      rw [e9]
      exact sb (c_goes hT hn (Nat.zero_le _) (by omega)) f22
    have wle : ∀ q j o, (∀ u, o = some u → u ≤ n) → (wr T A (dg r t) q j o).1 ≤ j + q ∧ ∀ u, (wr T A (dg r t) q j o).2 = some u → u ≤ n := by
      intro q
      induction q with
      | zero => exact fun j o h => ⟨Nat.le_refl _, h⟩
      | succ q ih =>
        intro j o h
        unfold wr
        cases o with
        | none => exact ⟨by show j ≤ _; omega, h⟩
        | some u => cases u with
          | zero => exact ⟨by show j ≤ _; omega, h⟩
          | succ u =>
            have hu := h _ rfl
            by_cases c : A (u + 1) = dg r t (j + 1) / 4 + 1
            · simp only [if_pos c]
              have := ih (j + 1) (T (u + 1) (dg r t (j + 1) % 4)) (fun w hw => ok.2.1 _ _ _ hu (by omega) hw)
              exact ⟨by omega, this.2⟩
            · simp only [if_neg c]
              exact ⟨by show j ≤ _; omega, h⟩
    have wl := wle t 0 _ ho
    refine Or.inl ⟨_, z', _, _, t, rfl, ht, fun u hu => by have := wl.2 u hu; omega, sb ft (sn n10 (sp (ii_ib (by omega) (by omega)) (sb ff rfl))), ?_, ⟨rfl, rfl, rfl⟩, s1, rfl, rfl, s2, s3, by omega, D', ft, ff⟩
    refine sb ip (sn n10 (sb in12 (sn n10 ?_)))
    have e27 := m_wk27 (N := N) (z := z) (i := i) (x3 := ll r) ht t 0 N (by omega) (by omega)
    have e27 : f_X11_walks_27 N N z (ii i) (ii t) (ll r) 1 0 = _ := e27
    rw [e27]
    refine sb (((m_inl (by omega)).2 r (by omega) rfl).2 (by omega)) (sn n10 ?_)
    rw [Nat.sub_zero] at s4
    exact s4
  · refine Or.inr ⟨D', ft, sb ip (sn n10 ?_)⟩
    rcases hx with hx | ⟨t, ht, rfl, hx⟩
    · rcases m_rng N x2 12 (by omega) with ⟨k, hk, e, q⟩ | ⟨_, q⟩
      · exfalso
        subst e
        rcases hx with hx | ⟨t, h1, h2, e⟩
        · have := (ii_lt (by omega) (by omega)).mp hx; omega
        · have := (ii_eq (by omega) h2).mp e; omega
      · exact sb q (sp rfl rfl)
    · have big : 4 * 12 ^ t < 9223372036854775808 := by have := p12le ht; omega
      have pos := p12 t
      have in12 : f_X11_in N (ii t).toInt64 0 (ii 12).toInt64 = some (ii 1) := by
        rcases m_rng N (ii t) 12 (by omega) with ⟨k, hk, e, q⟩ | ⟨hx, q⟩
        · exact q
        · exfalso
          rcases hx with hx | ⟨k, hk, hk', e⟩
          · have := (ii_lt (by omega) (by omega)).mp hx; omega
          · have := (ii_eq (by omega) hk').mp e; omega
      refine sb in12 (sn n10 ?_)
      have e27 := m_wk27 (N := N) (z := z) (i := i) (x3 := x3) ht t 0 N (by omega) (by omega)
      have e27 : f_X11_walks_27 N N z (ii i) (ii t) x3 1 0 = _ := e27
      rw [e27]
      rcases hx with hx | ⟨r, h1, h2, rfl⟩
      · exact sb ((m_inl (by omega)).1 hx) (sp rfl rfl)
      · exact sb (((m_inl (by omega)).2 r h1 rfl).1 (by omega)) (sp rfl rfl)
theorem em_0 {o : Option Nat} (h : ∀ u, o = some u → u ≤ 16) : em o = ii 0 ↔ o = some 0 := by
  cases o with
  | none =>
    show -ii 1 = ii 0 ↔ _
    rw [ni_eq_ii (by omega) (by omega)]; simp
  | some u =>
    have := h u rfl
    show ii u = ii 0 ↔ _
    rw [ii_eq (by omega) (by omega)]; simp
theorem tv_fc (v : ql_V) (D : Nat → Int32) : fc v (tv v D) := ⟨rfl, rfl, rfl⟩
theorem m_wk0 {z : ql_Z} {x1 x2 : Int32} {x3 : Int64} (m1 : f_X11_isProgram N x1 = some (ii 0)) : f_X11_walks N z x1 x2 x3 = some (ii 0, z) := by
  unfold f_X11_walks f_X11_walks_0
  exact sb m1 (sp rfl rfl)
theorem e_lets {z : ql_Z} (hN : 1000 ≤ N) (R : pga P z.1) (x1 x2 : Int32) (x3 : Int64) : ∃ r v' z', f_X10_lets N P v x1 x2 x3 = some (r, v') ∧ f_X11_lets N z x1 x2 x3 = some (r, z') ∧ fc v v' ∧ fr z z' := by
  unfold f_X10_lets f_X10_lets_0 f_X11_lets f_X11_lets_0
  rcases ip_cases N x1 with ⟨i, hi, rfl, c1, m1⟩ | ⟨c1, m1⟩
  · have t1 : (ii i).toNatClampNeg = i := ii_nat (by omega)
    rw [t1]
    rcases e_wk (v := v) hN R hi x2 x3 with ⟨v', z', j, o, t, rfl, ht, ho, _, fm, f1, f2, a1, a2, a3, a4, hj, D', ft, ff⟩ | ⟨D', ft, fm⟩
    · refine ⟨if ii j = ii t then (if o = some 0 then ii 1 else ii 0) else ii 0, v', z', sb c1 (sn n10 (sb ft (sn n10 (sp (ii_ib (by omega) (by omega)) (sb ff ?_))))), sb fm (sn n10 ?_), f1, f2⟩
      · rw [a1, a2]
        by_cases q1 : ii j = ii t
        · rw [if_pos q1, if_pos q1]
          by_cases q2 : o = some 0
          · rw [if_pos q2]
            exact sp ((ec_0 (n := 16) (by omega) ho).mpr q2) rfl
          · rw [if_neg q2]
            exact sn (fun x => q2 ((ec_0 (n := 16) (by omega) ho).mp x)) rfl
        · rw [if_neg q1, if_neg q1]; rfl
      · show (if z'.1 39 0 = ii t then if z'.1 40 0 = 0 then some (1, z') else some (0, z') else some (0, z')) = _
        rw [a3, a4]
        by_cases q1 : ii j = ii t
        · rw [if_pos q1, if_pos q1]
          by_cases q2 : o = some 0
          · rw [if_pos q2]
            exact sp ((em_0 ho).mpr q2) rfl
          · rw [if_neg q2]
            exact sn (fun x => q2 ((em_0 ho).mp x)) rfl
        · rw [if_neg q1, if_neg q1]; rfl
    · exact ⟨-ii 1, tv v D', z, sb c1 (sn n10 (sb ft (sp rfl rfl))), sb fm (sp rfl rfl), tv_fc v D', fr_r z⟩
  · exact ⟨-ii 1, v, z, sb c1 (sp rfl rfl), sb (m_wk0 m1) (sp rfl rfl), fc_r v, fr_r z⟩
theorem e_walk {z : ql_Z} (hN : 1000 ≤ N) (R : pga P z.1) (x1 x2 : Int32) (x3 : Int64) (x5 : Int32) : ∃ r v' z', f_X10_walk N P v x1 x2 x3 x5 = some (r, v') ∧ f_X11_walk N z x1 x2 x3 x5 = some (r, z') ∧ fc v v' ∧ fr z z' := by
  unfold f_X10_walk f_X10_walk_0 f_X11_walk f_X11_walk_0
  rw [lo_1]
  rcases ip_cases N x1 with ⟨i, hi, rfl, c1, m1⟩ | ⟨c1, m1⟩
  · have t1 : (ii i).toNatClampNeg = i := ii_nat (by omega)
    rw [t1]
    rcases e_wk (v := v) hN R hi x2 x3 with ⟨v', z', j, o, t, rfl, ht, ho, _, fm, f1, f2, a1, a2, a3, a4, hj, D', ft, ff⟩ | ⟨D', ft, fm⟩
    · rcases m_rng N x5 1 (by omega) with ⟨w, hw, rfl, q⟩ | ⟨hx, q⟩
      · rcases (show w = 0 ∨ w = 1 by omega) with rfl | rfl
        · refine ⟨ii j, v', z', sb c1 (sn n10 (sb ft (sn n10 (sn (nl0 (by omega)) (sp (le_y 1 (by omega) (by omega)) (sp (ii_ib (by omega) (by omega)) (sb ff (sp rfl ?_)))))))), sb q (sn n10 (sb fm (sn n10 (sp rfl ?_)))), f1, f2⟩
          · rw [a1]
          · show some (z'.1 39 0, z') = _
            rw [a3]
        · refine ⟨ec o, v', z', sb c1 (sn n10 (sb ft (sn n10 (sn (nl0 (by omega)) (sp (le_y 1 (by omega) (by omega)) (sp (ii_ib (by omega) (by omega)) (sb ff (sn n10 ?_)))))))), sb q (sn n10 (sb fm (sn n10 (sn n10 ?_)))), f1, f2⟩
          · rw [a2]
          · show (if 0 ≤ z'.1 40 0 then some (z'.1 40 0, z') else some (-9, z')) = _
            rw [a4]
            cases o with
            | none => exact sn (fun x => by have := (ii_le_ni (show 1 < 2147483648 by omega) (show 0 < 2147483648 by omega)).mp x; omega) rfl
            | some u => exact sp (zk (by have := ho u rfl; omega)) rfl
      · refine ⟨-ii 1, tv v D', z, ?_, sb q (sp rfl rfl), tv_fc v D', fr_r z⟩
        rcases hx with hx | ⟨k, hk, hk', rfl⟩
        · exact sb c1 (sn n10 (sb ft (sn n10 (sp hx rfl))))
        · exact sb c1 (sn n10 (sb ft (sn n10 (sn (nl0 hk') (sn (le_n 1 hk hk') rfl)))))
    · rcases m_rng N x5 1 (by omega) with ⟨w, hw, rfl, q⟩ | ⟨hx, q⟩
      · exact ⟨-ii 1, tv v D', z, sb c1 (sn n10 (sb ft (sp rfl rfl))), sb q (sn n10 (sb fm (sp rfl rfl))), tv_fc v D', fr_r z⟩
      · exact ⟨-ii 1, tv v D', z, sb c1 (sn n10 (sb ft (sp rfl rfl))), sb q (sp rfl rfl), tv_fc v D', fr_r z⟩
  · rcases m_rng N x5 1 (by omega) with ⟨w, hw, rfl, q⟩ | ⟨hx, q⟩
    · exact ⟨-ii 1, v, z, sb c1 (sp rfl rfl), sb q (sn n10 (sb (m_wk0 m1) (sp rfl rfl))), fc_r v, fr_r z⟩
    · exact ⟨-ii 1, v, z, sb c1 (sp rfl rfl), sb q (sp rfl rfl), fc_r v, fr_r z⟩
end
