/-! the reference's words; signs, letters -/
def sg (c : Nat) : Nat := if c = 48 then 15 else if c = 49 then 16 else if c = 59 then 17 else if c = 124 then 18 else if c = 38 then 19 else if c = 33 then 20 else if c = 40 then 21 else if c = 41 then 22 else 24
section
variable {N : Nat}
theorem lq_e {v k : Nat} (hv : v < 1000000000000) (hk : k < 1000000000000) : lg_cmp (ll v) (ll k) = ii 0 ↔ v = k := by
  rw [lc_eq, ll_eq (by omega) (by omega)]
theorem m_longer {v : Nat} (hv : v < 1000000000000) : f_X11_longer N (ll v) = if lg_cmp (ll v) (ll 634160) = ii 0 then some (ii 2) else if lg_cmp (ll v) (ll 643568) = ii 0 then some (ii 3) else if lg_cmp (ll v) (ll 294) = ii 0 then some (ii 4) else if lg_cmp (ll v) (ll 663726) = ii 0 then some (ii 5) else if lg_cmp (ll v) (ll 176741) = ii 0 then some (ii 6) else if lg_cmp (ll v) (ll 201) = ii 0 then some (ii 7) else if lg_cmp (ll v) (ll 24388997) = ii 0 then some (ii 8) else if lg_cmp (ll v) (ll 143) = ii 0 then some (ii 9) else if lg_cmp (ll v) (ll 484) = ii 0 then some (ii 10) else if lg_cmp (ll v) (ll 755156) = ii 0 then some (ii 11) else some (ii 1) := rfl
theorem m_wfin {v : Nat} (hv : v < 1000000000000) : (if lg_cmp (ll v) (ll 2) = ii 0 then some (ii 12) else if lg_cmp (ll v) (ll 3) = ii 0 then some (ii 13) else if lg_cmp (ll v) (ll 16) < ii 0 then (f_X11_longer N (ll v)).bind (fun u => some u) else if ii 0 < lg_cmp (ll v) (ll 18) then (f_X11_longer N (ll v)).bind (fun u => some u) else some ((ii 14 + (ll v).toInt32) - ii 16)) = some (ii (mt (wq v))) := by
  have c16 : lg_cmp (ll v) (ll 16) < ii 0 ↔ v < 16 := by rw [lc_lt, ll_lt (by omega) (by omega)]
  have c18 : ii 0 < lg_cmp (ll v) (ll 18) ↔ 18 < v := by rw [lc_gt, ll_lt (by omega) (by omega)]
  by_cases e2 : v = 2
  · subst e2; rfl
  by_cases e3 : v = 3
  · subst e3; rfl
  by_cases e16 : v = 16
  · subst e16; rfl
  by_cases e17 : v = 17
  · subst e17; rfl
  by_cases e18 : v = 18
  · subst e18; rfl
  have lg : (f_X11_longer N (ll v)).bind (fun u => some u) = some (ii (mt (wq v))) := by
    rw [m_longer hv]
    by_cases k0 : v = 634160
    · subst k0; rfl
    by_cases k1 : v = 643568
    · subst k1; rfl
    by_cases k2 : v = 294
    · subst k2; rfl
    by_cases k3 : v = 663726
    · subst k3; rfl
    by_cases k4 : v = 176741
    · subst k4; rfl
    by_cases k5 : v = 201
    · subst k5; rfl
    by_cases k6 : v = 24388997
    · subst k6; rfl
    by_cases k7 : v = 143
    · subst k7; rfl
    by_cases k8 : v = 484
    · subst k8; rfl
    by_cases k9 : v = 755156
    · subst k9; rfl
    have w : wq v = 24 := by
      unfold wq
      rw [if_neg e2, if_neg e3, if_neg e16, if_neg e17, if_neg e18, if_neg k0, if_neg k1, if_neg k2, if_neg k3, if_neg k4, if_neg k5, if_neg k6, if_neg k7, if_neg k8, if_neg k9]
    rw [w, if_neg (fun x => k0 ((lq_e hv (by omega)).mp x)), if_neg (fun x => k1 ((lq_e hv (by omega)).mp x)), if_neg (fun x => k2 ((lq_e hv (by omega)).mp x)), if_neg (fun x => k3 ((lq_e hv (by omega)).mp x)), if_neg (fun x => k4 ((lq_e hv (by omega)).mp x)), if_neg (fun x => k5 ((lq_e hv (by omega)).mp x)), if_neg (fun x => k6 ((lq_e hv (by omega)).mp x)), if_neg (fun x => k7 ((lq_e hv (by omega)).mp x)), if_neg (fun x => k8 ((lq_e hv (by omega)).mp x)), if_neg (fun x => k9 ((lq_e hv (by omega)).mp x))]; rfl
  rw [if_neg (fun x => e2 ((lq_e hv (by omega)).mp x)), if_neg (fun x => e3 ((lq_e hv (by omega)).mp x))]
  by_cases q : v < 16
  · rw [if_pos (c16.mpr q)]; exact lg
  · rw [if_neg (fun x => q (c16.mp x)), if_pos (c18.mpr (by omega))]; exact lg
theorem vv_lt {b : Nat → Nat} {s : Nat} : ∀ n, (∀ j, j < n → b (s + j) ≤ 122) → vv b s n < 32 ^ n
  | 0, _ => Nat.zero_lt_one
  | n + 1, h => by
    have := vv_lt n (fun j hj => h j (by omega))
    have h1 := h n (by omega)
    rw [Nat.pow_succ]
    show 32 * vv b s n + (b (s + n) - 96) < 32 ^ n * 32
    omega
theorem m_wordOf {z : ql_Z} {b : Nat → Nat} {L s n : Nat} (hN : 1000 ≤ N) (hz : ∀ j, j < L → z.1 1 j = ii (b j)) (hL : L ≤ 300) (h16 : z.1 16 0 = ii s) (hs : s + n ≤ L) (h1 : 1 ≤ n) (hl : ∀ j, j < n → isl (b (s + j))) : f_X11_wordOf N z (ii n) = some (ii (mt (wk5 b s (s + n)))) := by
  have go : ∀ d k m v, k + d = n → d + 1 ≤ m → v < 1000000000000 → (n ≤ 5 → v = vv b s k) → (5 < n → 0 < k → v = 0) → ∃ v', v' < 1000000000000 ∧ (n ≤ 5 → v' = vv b s n) ∧ (5 < n → v' = 0) ∧ f_X11_wordOf_5 N z m (ii n) (ll v) (ii k) = some (ii (mt (wq v'))) := by
    intro d
    induction d with
    | zero =>
      intro k m v hk hm hv a1 a2
      obtain ⟨m, rfl⟩ : ∃ j, m = j + 1 := ⟨m - 1, by omega⟩
      obtain rfl : k = n := by omega
      refine ⟨v, hv, a1, fun h => a2 h (by omega), ?_⟩
      rw [f_X11_wordOf_5]
      refine sp (le_y k (Nat.le_refl _) (by omega)) ?_
      exact m_wfin hv
    | succ d ih =>
      intro k m v hk hm hv a1 a2
      obtain ⟨m, rfl⟩ : ∃ j, m = j + 1 := ⟨m - 1, by omega⟩
      obtain ⟨l1, l2⟩ := hl k (by omega)
      have nn : ¬ ii n ≤ ii k := le_n k (by omega) (by omega)
      by_cases q : n ≤ 5
      · have hv' : 32 * v + (b (s + k) - 96) < 1000000000000 := by
          have := vv_lt (b := b) (s := s) k (fun j hj => (hl j (by omega)).2)
          have p : 32 ^ k ≤ 32 ^ 5 := Nat.pow_le_pow_right (by omega) (by omega)
          have e : 32 ^ 5 = 33554432 := by decide
          have := a1 q
          omega
        obtain ⟨v', b1, b2, b3, b4⟩ := ih (k + 1) m (32 * v + (b (s + k) - 96)) (by omega) (by omega) hv' (fun _ => by rw [a1 q]; rfl) (fun h => by omega)
        refine ⟨v', b1, b2, b3, ?_⟩
        rw [f_X11_wordOf_5, h16, ii_add, ii_nat (by omega), hz _ (by omega)]
        unfold f_X11_wordOf_45
        have e : ((32 * ll v + (ii (b (s + k))).toInt64) - 97) + 1 = ll (32 * v + (b (s + k) - 96)) := by
          rw [show (32 : Int64) = ll 32 from rfl, show (97 : Int64) = ll 97 from rfl, show (1 : Int64) = ll 1 from rfl, ii_ll (by omega), ll_mul, ll_add, ll_sub (by omega), ll_add]
          congr 1; omega
        rw [e, lk_1, ii_add]
        exact sn nn (sp (le_y 5 q (by omega)) (sp (ii_ib (by omega) (by omega)) b4))
      · obtain ⟨v', b1, b2, b3, b4⟩ := ih (k + 1) m 0 (by omega) (by omega) (by omega) (fun h => by omega) (fun _ _ => rfl)
        refine ⟨v', b1, b2, b3, ?_⟩
        rw [f_X11_wordOf_5]
        unfold f_X11_wordOf_45
        rw [lk_1, ii_add]
        exact sn nn (sn (le_n 5 (by omega) (by omega)) b4)
  obtain ⟨v', b1, b2, b3, b4⟩ := go n 0 N 0 (by omega) (by omega) (by omega) (fun _ => rfl) (fun _ h => by omega)
  unfold f_X11_wordOf f_X11_wordOf_0
  have b4 : f_X11_wordOf_5 N z N (ii n) 0 0 = _ := b4
  rw [b4]
  have ew : wq v' = wk5 b s (s + n) := by
    unfold wk5
    rw [show s + n - s = n by omega]
    by_cases q : n ≤ 5
    · rw [if_pos (by omega), b2 q]
      rcases (show n = 1 ∨ n = 2 ∨ n = 3 ∨ n = 4 ∨ n = 5 by omega) with rfl | rfl | rfl | rfl | rfl
      · exact (wt_q1 (hl 0 (by omega))).symm
      · exact (wt_q2 (hl 0 (by omega)) (hl 1 (by omega))).symm
      · exact (wt_q3 (hl 0 (by omega)) (hl 1 (by omega)) (hl 2 (by omega))).symm
      · exact (wt_q4 (hl 0 (by omega)) (hl 1 (by omega)) (hl 2 (by omega)) (hl 3 (by omega))).symm
      · exact (wt_q5 (hl 0 (by omega)) (hl 1 (by omega)) (hl 2 (by omega)) (hl 3 (by omega)) (hl 4 (by omega))).symm
    · rw [if_neg (by omega), b3 (by omega)]; rfl
  rw [ew]
theorem m_sign {c : Nat} (h : c < 256) : f_X11_signOf N (ii c) = some (ii (mt (sg c))) := by
  have t : ∀ c : Fin 256, f_X11_signOf 0 (ii c.1) = some (ii (mt (sg c.1))) := by decide +kernel
  exact t ⟨c, h⟩
theorem c_ix {x : Int32} : ∀ d k m, k + d = 8 → d + 1 ≤ m → f_J1_indexOfChar_4cfef_7 N m (ii 8) x (ii k) = f_J1_indexOfChar_4cfef_7 9 (d + 1) (ii 8) x (ii k) := by
  intro d
  induction d with
  | zero =>
    intro k m hk hm
    obtain ⟨m, rfl⟩ : ∃ j, m = j + 1 := ⟨m - 1, by omega⟩
    obtain rfl : k = 8 := by omega
    rfl
  | succ d ih =>
    intro k m hk hm
    obtain ⟨m, rfl⟩ : ∃ j, m = j + 1 := ⟨m - 1, by omega⟩
    rw [f_J1_indexOfChar_4cfef_7, f_J1_indexOfChar_4cfef_7, lk_1, ii_add, ih (k + 1) m (by omega) (by omega)]
theorem c_sign {c : Nat} (hN : 1000 ≤ N) (h : c < 256) : f_X7_signToken N (ii c) = some (ii (sg c)) := by
  have t : ∀ c : Fin 256, f_X7_signToken 9 (ii c.1) = some (ii (sg c.1)) := by decide +kernel
  have e : f_X7_signToken N (ii c) = f_X7_signToken 9 (ii c) := by
    have q : ∀ x1, f_J1_indexOfChar_4cfef N x1 0 8 = f_J1_indexOfChar_4cfef 9 x1 0 8 := fun x1 => (c_ix 8 0 N (by omega) (by omega)).trans (c_ix 8 0 9 (by omega) (by omega)).symm
    have r : ∀ x1, f_J1_indexOf_4cfef N x1 0 8 = f_J1_indexOf_4cfef 9 x1 0 8 := fun x1 => by
      unfold f_J1_indexOf_4cfef f_J1_indexOf_4cfef_0
      have e1 : (if (0 : Int32) < 0 then (0 : Int32) else 0) = 0 := rfl
      have e2 : (if (8 : Int32) < 8 then (8 : Int32) else 8) = 8 := rfl
      rw [e1, e2, q x1]; rfl
    have l : ∀ M x1, f_X7_signToken M x1 = ((f_J1_indexOf_4cfef M ((x1.toUInt32 % 65536).toInt32) 0 8).bind fun u1 => if 0 ≤ u1 then some (15 + u1) else some 24) := fun M x1 => by
      unfold f_X7_signToken f_X7_signToken_0 f_J0_indexOf_0f7a4 f_J0_indexOf_0f7a4_0 f_J0_indexOf_7cf53 f_J0_indexOf_7cf53_0
      have a1 : f_J0_isLatin1_aae02s M = some 1 := rfl
      have a2 : f_J0_length_8abf5 M = some 8 := by
        have : f_J0_length_8abf5 0 = some 8 := by decide +kernel
        exact this
      rw [a1, bd_s, if_neg (by decide), a2, bd_s]
      cases f_J1_indexOf_4cfef M ((x1.toUInt32 % 65536).toInt32) 0 8 with
      | none => rfl
      | some u => rfl
    rw [l, l, r]
  rw [e]; exact t ⟨c, h⟩
theorem c_let {c : Nat} (h : c < 256) : (isl c → f_X7_isLetter N (ii c) = some (ii 1)) ∧ (¬ isl c → f_X7_isLetter N (ii c) = some (ii 0)) := by
  unfold f_X7_isLetter f_X7_isLetter_0 isl
  refine ⟨fun q => ?_, fun q => ?_⟩
  · exact sn (lt_n 97 (by omega) (by omega)) (sn (lt_n (a := 122) c (by omega) (by omega)) rfl)
  · by_cases q1 : c < 97
    · exact sp (lt_y 97 q1 (by omega)) rfl
    · exact sn (lt_n 97 (by omega) (by omega)) (sp (lt_y (a := 122) c (by omega) (by omega)) rfl)
theorem m_let {c : Nat} (h : c < 256) : (isl c → f_X11_isLetter N (ii c) = some (ii 1)) ∧ (¬ isl c → f_X11_isLetter N (ii c) = some (ii 0)) := by
  unfold f_X11_isLetter f_X11_isLetter_0 isl
  have mi := m_in N (ii c) (ii 97) (ii 122)
  rw [lo_97, lo_122]
  refine ⟨fun q => ?_, fun q => ?_⟩
  · rw [if_neg (lt_n 97 (by omega) (by omega)), if_neg (lt_n (a := 122) c (by omega) (by omega))] at mi
    exact sb mi (if_pos bz_1)
  · by_cases q1 : c < 97
    · rw [if_pos (lt_y 97 q1 (by omega))] at mi
      exact sb mi (if_pos bz_0)
    · rw [if_neg (lt_n 97 (by omega) (by omega)), if_pos (lt_y (a := 122) c (by omega) (by omega))] at mi
      exact sb mi (if_pos bz_0)
theorem sx_and {c : Nat} (h : c < 256) : sx c &&& 255 = ii c := by
  have t : ∀ c : Fin 256, sx c.1 &&& 255 = ii c.1 := by decide +kernel
  exact t ⟨c, h⟩
end
