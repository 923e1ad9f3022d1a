/-! size; the relation kept; a new object -/
def tz (z : ql_Z) (t : Int64) : ql_Z := (z.1, ql_uq z.2 0 (fun _ => z.2 0 0 + t))
section
variable {N : Nat}
theorem by_0 (z : ql_Z) (x : Int32) : f_X11_sizeBy N z (ii 0) x = some (1, tz z 1) := by
  unfold f_X11_sizeBy f_X11_sizeBy_0
  refine sn (show ¬ ii 0 = (1 : Int32) by decide) (sn (show ¬ ii 0 = (2 : Int32) by decide) (sn (show ¬ ii 0 = (3 : Int32) by decide) (sn (show ¬ ii 0 = (4 : Int32) by decide) ?_)))
  have e1 : (0 : Int32) + 1 = 1 := by decide
  have e2 : (1 : Int32).toInt64 = 1 := by decide
  show some ((0 : Int32) + 1, tz z (1 : Int32).toInt64) = _
  rw [e1, e2]
theorem by_1 (z : ql_Z) (x : Int32) : f_X11_sizeBy N z (ii 1) x = some (1 + x, tz (tz z 10) 1) := by
  unfold f_X11_sizeBy f_X11_sizeBy_0
  refine sp (show ii 1 = (1 : Int32) by decide) ?_
  have e1 : (0 : Int32) + (0 + 1) = 1 := by decide
  have e2 : (1 : Int32).toInt64 = 1 := by decide
  have e3 : (10 : Int32).toInt64 = 10 := by decide
  show some (((0 : Int32) + (0 + 1)) + x, tz (tz z (10 : Int32).toInt64) (1 : Int32).toInt64) = _
  rw [e1, e2, e3]
theorem by_2 (z : ql_Z) (x : Int32) : f_X11_sizeBy N z (ii 2) x = some (1 + x, tz (tz z 100) 1) := by
  unfold f_X11_sizeBy f_X11_sizeBy_0
  refine sn (show ¬ ii 2 = (1 : Int32) by decide) (sp (show ii 2 = (2 : Int32) by decide) ?_)
  have e1 : (0 : Int32) + (0 + 1) = 1 := by decide
  have e2 : (1 : Int32).toInt64 = 1 := by decide
  have e3 : (100 : Int32).toInt64 = 100 := by decide
  show some (((0 : Int32) + (0 + 1)) + x, tz (tz z (100 : Int32).toInt64) (1 : Int32).toInt64) = _
  rw [e1, e2, e3]
theorem by_3 (z : ql_Z) (x : Int32) : f_X11_sizeBy N z (ii 3) x = some (2 * (1 + x), tz (tz (tz z 1000) 100) 1) := by
  unfold f_X11_sizeBy f_X11_sizeBy_0
  refine sn (show ¬ ii 3 = (1 : Int32) by decide) (sn (show ¬ ii 3 = (2 : Int32) by decide) (sp (show ii 3 = (3 : Int32) by decide) ?_))
  have e1 : (0 : Int32) + (0 + 1) = 1 := by decide
  have e2 : (1 : Int32).toInt64 = 1 := by decide
  have e3 : (100 : Int32).toInt64 = 100 := by decide
  have e4 : (1000 : Int32).toInt64 = 1000 := by decide
  show some ((0 : Int32) + (2 * (((0 : Int32) + (0 + 1)) + x)), tz (tz (tz z (1000 : Int32).toInt64) (100 : Int32).toInt64) (1 : Int32).toInt64) = _
  rw [e1, e2, e3, e4, Int32.zero_add]
theorem by_4 (z : ql_Z) (x : Int32) : f_X11_sizeBy N z (ii 4) x = some ((1 + 4) - x, tz (tz z 10000) 1) := by
  unfold f_X11_sizeBy f_X11_sizeBy_0
  refine sn (show ¬ ii 4 = (1 : Int32) by decide) (sn (show ¬ ii 4 = (2 : Int32) by decide) (sn (show ¬ ii 4 = (3 : Int32) by decide) (sp (show ii 4 = (4 : Int32) by decide) ?_)))
  have e1 : (0 : Int32) + (0 + 1) = 1 := by decide
  have e2 : (1 : Int32).toInt64 = 1 := by decide
  have e3 : (10000 : Int32).toInt64 = 10000 := by decide
  show some ((((0 : Int32) + (0 + 1)) + 4) - x, tz (tz z (10000 : Int32).toInt64) (1 : Int32).toInt64) = _
  rw [e1, e2, e3]
theorem c_nr {s : ql_St} {g : cT} {x : Nat} (hx : x < 300) (e0 : s 0 x = ii (cK g x)) (e1 : s 1 x = ii (cW g x)) (hK : cK g x < 6) (hW : cW g x < 16) (h1 : cK g x ≠ 1) : f_X6_numberOf N s (ii x) = some (ii (pcn (cW g x))) := by
  unfold f_X6_numberOf f_X6_numberOf_0
  rw [ii_nat (by omega), e0, e1]
  have ib : ql_ib (ii x) 300 = true := ii_ib (by omega) hx
  refine sp ib (sn (fun y => h1 ((ii_eq (b := 1) (by omega) (by omega)).mp y)) (sp ib (sb (c_bits hW) rfl)))
theorem c_nr1 {s : ql_St} {g : cT} {x t : Nat} (hx : x < 300) (e0 : s 0 x = ii (cK g x)) (e2 : s 2 x = ii t) (h1 : cK g x = 1) {n : Nat} (h6 : s 6 0 = ii n) (hn : n ≤ 16) (t1 : 1 ≤ t) (ht : t ≤ n) (e5 : s 5 t = ii (cA g t)) : f_X6_numberOf N s (ii x) = some (ii (cA g t)) := by
  unfold f_X6_numberOf f_X6_numberOf_0
  rw [ii_nat (by omega), e0, e2, h1]
  have ib : ql_ib (ii x) 300 = true := ii_ib (by omega) hx
  exact sp ib (sp rfl (sp ib (sb (c_aa h6 hn t1 ht) (by rw [e5]))))
theorem e_sz {P : Nat → ql_St} {z0 : ql_St} {i : Nat} {g : cT} (hi : i < 4) (hS : cS g ≤ 300) (hN : cN g ≤ 16 ∧ P i 6 0 = ii (cN g)) (hU : us g (cS g) ≤ 199) (h3 : P i 3 0 = ii (cS g))
    (hx : ∀ x, x < cS g → P i 0 x = ii (cK g x) ∧ P i 1 x = ii (cW g x) ∧ P i 2 x = ec (cJ g x) ∧ cK g x < 6 ∧ cW g x < 16 ∧ (cK g x = 1 → ∃ t, cJ g x = some t ∧ 1 ≤ t ∧ t ≤ cN g))
    (hA : ∀ q, 1 ≤ q → q ≤ cN g → P i 5 q = ii (cA g q)) (h12 : z0 12 i = ii (us g (cS g))) (hst : ∀ x, x < cS g → st1 z0 (200 * i) g x) :
    ∀ d x m m' (acc : Int32) (v : ql_V) (z : ql_Z), x + d = cS g → d + 1 ≤ m → d + 1 ≤ m' → z.1 = z0 → v.2.1 100 0 = z.2 0 0 →
      ∃ r v' z', f_X10_size_21 N P m v i acc (ii x) = some (r, v') ∧ f_X11_size_13 N m' z (ii i) acc (ii (us g x)) = some (r, z') ∧ v'.1 = v.1 ∧ v'.2.1 100 0 = z'.2 0 0 ∧ z'.1 = z.1 := by
  intro d
  induction d with
  | zero =>
    intro x m m' acc v z hxd hm hm' hz ht
    obtain ⟨m, rfl⟩ : ∃ j, m = j + 1 := ⟨m - 1, by omega⟩
    obtain ⟨m', rfl⟩ : ∃ j, m' = j + 1 := ⟨m' - 1, by omega⟩
    obtain rfl : x = cS g := by omega
    refine ⟨acc, v, z, ?_, ?_, rfl, ht, rfl⟩
    · rw [f_X10_size_21, h3]
      exact sp (le_y _ (Nat.le_refl _) (by omega)) rfl
    · rw [f_X11_size_13, hz, ii_nat (by omega), h12]
      exact sp (ii_ib (by omega) (by omega)) (sp (le_y _ (Nat.le_refl _) (by omega)) rfl)
  | succ d ih =>
    intro x m m' acc v z hxd hm hm' hz ht
    obtain ⟨m, rfl⟩ : ∃ j, m = j + 1 := ⟨m - 1, by omega⟩
    have hxS : x < cS g := by omega
    obtain ⟨e0, e1, e2, hK, hW, h1⟩ := hx x hxS
    have ibx : ql_ib (ii x) 300 = true := ii_ib (by omega) (by omega)
    have nle : ¬ ii (cS g) ≤ ii x := le_n (a := cS g) x (by omega) (by omega)
    have nlt : ¬ ii (cK g x) < (0 : Int32) := fun y => by
      have := (ii_lt (b := 0) (show cK g x < 2147483648 by omega) (by omega)).mp y
      omega
    have keq : ∀ t, t < 6 → (ii (cK g x) = ii t ↔ cK g x = t) := fun t h => ii_eq (by omega) (by omega)
    by_cases k5 : cK g x = 5
    · obtain ⟨r, v', z', a1, a2, a3⟩ := ih (x + 1) m m' acc v z (by omega) (by omega) (by omega) hz ht
      have eu : us g (x + 1) = us g x := us_0 (by omega)
      rw [eu] at a2
      refine ⟨r, v', z', ?_, a2, a3⟩
      rw [f_X10_size_21, h3, ii_nat (by omega), e0, ← a1]
      refine sn nle (sp ibx (sn nlt (sp (show (5 : Int32) ≤ ii (cK g x) by rw [k5]; decide) ?_)))
      unfold f_X10_size_77
      rw [lk_1, ii_add]
    · obtain ⟨m', rfl⟩ : ∃ j, m' = j + 1 := ⟨m' - 1, by omega⟩
      have k5' : cK g x < 5 := by omega
      have n5 : ¬ (5 : Int32) ≤ ii (cK g x) := le_n (a := 5) _ k5' (by omega)
      have eu : us g (x + 1) = us g x + 1 := us_s k5'
      have lu := us_lt k5' hxS
      obtain ⟨s1, s2, s3⟩ := hst x hxS k5'
      have ibu : ql_ib (ii (200 * i + us g x)) 1000 = true := ii_ib (by omega) (by omega)
      -- one step on either side
      have go : ∀ (w : Int32) (T : Int64) (zn : ql_Z), zn.1 = z.1 → T = zn.2 0 0 →
          (f_X10_size_21 N P (m + 1) v i acc (ii x) = f_X10_size_77 N P (f_X10_size_21 N P m) (v.1, (ql_uq v.2.1 100 (fun _ => T)), v.2.2.1, v.2.2.2.1, v.2.2.2.2.1, v.2.2.2.2.2) i (acc + w) (ii x)) →
          f_X11_sizeBy N z (ii (cK g x)) (z0 11 (200 * i + us g x)) = some (w, zn) →
          ∃ r v' z', f_X10_size_21 N P (m + 1) v i acc (ii x) = some (r, v') ∧ f_X11_size_13 N (m' + 1) z (ii i) acc (ii (us g x)) = some (r, z') ∧ v'.1 = v.1 ∧ v'.2.1 100 0 = z'.2 0 0 ∧ z'.1 = z.1 := fun w T zn hz1 hT hc hm => by
        obtain ⟨r, v', z', a1, a2, a3, a4, a5⟩ := ih (x + 1) m m' (acc + w) (v.1, (ql_uq v.2.1 100 (fun _ => T)), v.2.2.1, v.2.2.2.1, v.2.2.2.2.1, v.2.2.2.2.2) zn (by omega) (by omega) (by omega) (hz1.trans hz) (by rw [← hT]; show ql_uq v.2.1 100 (fun _ => T) 100 0 = T; rw [uq_same])
        refine ⟨r, v', z', ?_, ?_, a3, a4, a5.trans hz1⟩
        · rw [hc]
          unfold f_X10_size_77
          rw [lk_1, ii_add]; exact a1
        · rw [f_X11_size_13, hz, ii_nat (show i < 2147483648 by omega), h12]
          have ix : (200 : Int32) * ii i + ii (us g x) = ii (200 * i + us g x) := by rw [lk_200, ii_mul, ii_add]
          rw [ix, ii_nat (show 200 * i + us g x < 2147483648 by omega), s1, lk_1, ii_add, ← eu]
          exact sp (ii_ib (by omega) (by omega)) (sn (le_n (a := us g (cS g)) _ lu (by omega)) (sp ibu (sp ibu (sb hm a2))))
      rcases (by omega : cK g x = 0 ∨ cK g x = 1 ∨ cK g x = 2 ∨ cK g x = 3 ∨ cK g x = 4) with k | k | k | k | k
      · have nr := c_nr (N := N) (show x < 300 by omega) e0 e1 hK hW (by omega)
        rw [k] at go
        refine go 1 (v.2.1 100 0 + 1) (tz z 1) rfl (by rw [ht]; rfl) ?_ (by_0 z _)
        rw [f_X10_size_21, h3, ii_nat (by omega), e0]
        rw [k] at nlt n5 ⊢
        exact sn nle (sp ibx (sn nlt (sn n5 (sp rfl (sb nr rfl)))))
      · obtain ⟨t, ej, t1, t2⟩ := h1 k
        rw [ej] at e2
        have nr := c_nr1 (N := N) (s := P i) (show x < 300 by omega) e0 e2 k hN.2 hN.1 t1 t2 (hA t t1 t2)
        obtain ⟨t', ej', s4⟩ := s2 k
        obtain rfl : t = t' := by rw [ej] at ej'; injection ej'
        rw [k] at go
        refine go (1 + ii (cA g t)) (v.2.1 100 0 + 10 + 1) (tz (tz z 10) 1) rfl (by rw [ht]; rfl) ?_ (by rw [s4]; exact by_1 z _)
        rw [f_X10_size_21, h3, ii_nat (by omega), e0]
        rw [k] at nlt n5 ⊢
        exact sn nle (sp ibx (sn nlt (sn n5 (sn (show ¬ ii 1 = (0 : Int32) by decide) (sp rfl (sb nr rfl))))))
      · have nr := c_nr (N := N) (show x < 300 by omega) e0 e1 hK hW (by omega)
        have s4 := s3 (by omega)
        rw [k] at go
        refine go (1 + ii (pcn (cW g x))) (v.2.1 100 0 + 100 + 1) (tz (tz z 100) 1) rfl (by rw [ht]; rfl) ?_ (by rw [s4]; exact by_2 z _)
        rw [f_X10_size_21, h3, ii_nat (by omega), e0]
        rw [k] at nlt n5 ⊢
        exact sn nle (sp ibx (sn nlt (sn n5 (sn (show ¬ ii 2 = (0 : Int32) by decide) (sn (show ¬ ii 2 = (1 : Int32) by decide) (sp rfl (sb nr rfl)))))))
      · have nr := c_nr (N := N) (show x < 300 by omega) e0 e1 hK hW (by omega)
        have s4 := s3 (by omega)
        rw [k] at go
        refine go (2 * (1 + ii (pcn (cW g x)))) (v.2.1 100 0 + 1000 + 100 + 1) (tz (tz (tz z 1000) 100) 1) rfl (by rw [ht]; rfl) ?_ (by rw [s4]; exact by_3 z _)
        rw [f_X10_size_21, h3, ii_nat (by omega), e0]
        rw [k] at nlt n5 ⊢
        exact sn nle (sp ibx (sn nlt (sn n5 (sn (show ¬ ii 3 = (0 : Int32) by decide) (sn (show ¬ ii 3 = (1 : Int32) by decide) (sn (show ¬ ii 3 = (2 : Int32) by decide) (sp rfl (sb nr rfl))))))))
      · have nr := c_nr (N := N) (show x < 300 by omega) e0 e1 hK hW (by omega)
        have s4 := s3 (by omega)
        rw [k] at go
        refine go ((1 + 4) - ii (pcn (cW g x))) (v.2.1 100 0 + 10000 + 1) (tz (tz z 10000) 1) rfl (by rw [ht]; rfl) ?_ (by rw [s4]; exact by_4 z _)
        rw [f_X10_size_21, h3, ii_nat (by omega), e0]
        rw [k] at nlt n5 ⊢
        exact sn nle (sp ibx (sn nlt (sn n5 (sn (show ¬ ii 4 = (0 : Int32) by decide) (sn (show ¬ ii 4 = (1 : Int32) by decide) (sn (show ¬ ii 4 = (2 : Int32) by decide) (sn (show ¬ ii 4 = (3 : Int32) by decide) (sp rfl (sb nr rfl)))))))))
/-- the relation kept -/
theorem RR_k {u : ql_U} {z z' : ql_Z} {v' : ql_V} (R : RR u z) (e : ∀ s, s ≠ 1 → s ≠ 2 → s < 26 → z'.1 s = z.1 s) (ht : tr v' z') (hT : v'.2.1 100 0 = z'.2 0 0) : RR (v', u.2) z' := by
  obtain ⟨Rp, Rs, _, _, R4⟩ := R
  refine ⟨fun i hi => ?_, fun i hi => ?_, ht, hT, R4⟩
  · obtain ⟨n, T, A, h⟩ := Rp i hi
    refine ⟨n, T, A, pg_k h ?_ (fun x _ _ => ?_) (fun x _ _ => ?_)⟩
    · rw [e 9 (by decide) (by decide) (by decide)]
    · rw [e 13 (by decide) (by decide) (by decide)]
    · rw [e 7 (by decide) (by decide) (by decide)]
  · refine pgs_k (Rs i hi) ?_ (fun x _ _ => ?_)
    · rw [e 12 (by decide) (by decide) (by decide)]
    · rw [e 10 (by decide) (by decide) (by decide), e 11 (by decide) (by decide) (by decide)]; exact ⟨rfl, rfl⟩
theorem RR_f {u : ql_U} {z z' : ql_Z} {v' : ql_V} (R : RR u z) (hv : fc u.1 v') (hz : fr z z') : RR (v', u.2) z' := by
  obtain ⟨L, b, hL, a1, a2, a3⟩ := R.2.2.1
  refine RR_k R (fun s _ _ h => hz.1 s h) ⟨L, b, hL, ?_, ?_, fun j hj => ?_⟩ ?_
  · rw [hv.2.1]; exact a1
  · rw [hz.1 2 (by omega)]; exact a2
  · rw [hz.1 1 (by omega), hv.1]; exact a3 j hj
  · rw [hv.2.2, hz.2]; exact R.2.2.2.1
theorem e_size (hN : 1000 ≤ N) {u : ql_U} {z : ql_Z} (R : RR u z) (x1 : Int32) : ∃ r v' z', f_X10_size N u.2.1 u.1 x1 = some (r, v') ∧ f_X11_size N z x1 = some (r, z') ∧ RR (v', u.2) z' := by
  have R0 := R
  obtain ⟨Rp, Rs, ⟨L, b, hL, t1, t2, t3⟩, Rt, R4⟩ := R
  unfold f_X10_size f_X10_size_0 f_X11_size f_X11_size_0
  rcases ip_cases N x1 with ⟨i, hi, rfl, c1, m1⟩ | ⟨c1, m1⟩
  · obtain ⟨g, a1, a2, a3, a4, a5, a6, a7, a8⟩ := Rs i hi
    obtain ⟨r, v', z', f1, f2, f3, f4, f5⟩ := e_sz (N := N) (P := u.2.1) (z0 := z.1) hi a1 a2 a3 a4 a5 a6 a7 a8 (cS g) 0 N N 0 u.1 z (by omega) (by omega) (by omega) rfl Rt
    refine ⟨r, v', z', sb c1 (sn n10 (sp (ii_ib (by omega) (by omega)) ?_)), sb m1 (sn n10 f2), ?_⟩
    · rw [ii_nat (by omega)]; exact f1
    · refine RR_k R0 (fun s _ _ _ => by rw [f5]) ⟨L, b, hL, ?_, ?_, fun j hj => ?_⟩ f4
      · rw [f3]; exact t1
      · rw [f5]; exact t2
      · rw [f3, f5]; exact t3 j hj
  · exact ⟨-1, u.1, z, sb c1 (sp rfl rfl), sb m1 (sp rfl rfl), R0⟩
theorem e_trace {u : ql_U} {z : ql_Z} (R : RR u z) : ∃ r, f_X10_trace N u.2.1 u.1 = some r ∧ f_X11_trace N z = some r := ⟨z.2 0 0, congrArg some R.2.2.2.1, rfl⟩
/-! a new object -/
theorem i_run {a : Nat} (ha : a < 4) {B : Nat → Nat} (hB : B 0 = 0) : rT (cK (ad g0 0 15 none)) (fun x => ii (cW (ad g0 0 15 none) x)) (cJ (ad g0 0 15 none)) 1 B 0 a = some 0 := by
  unfold rT
  have e1 : cr (cK (ad g0 0 15 none)) (fun x => ii (cW (ad g0 0 15 none) x)) (cJ (ad g0 0 15 none)) 1 a (1 + 1) 0 = cr (cK (ad g0 0 15 none)) (fun x => ii (cW (ad g0 0 15 none) x)) (cJ (ad g0 0 15 none)) 1 a 1 (0 + 1) := cr_on (K := cK (ad g0 0 15 none)) (W := fun x => ii (cW (ad g0 0 15 none) x)) (J := cJ (ad g0 0 15 none)) (S := 1) (by omega) (show (0 : Nat) ≠ 1 by decide) (bt_15 ha)
  rw [hB, e1, cr_end (Nat.le_refl _)]
  rfl
theorem i_class (hN : 1000 ≤ N) : ∃ p, f_X6_init N = some p ∧ p 4 0 = ii 0 ∧ (∀ z i, z 9 i = ii 0 → m_tab (z 13) i 0 (fun _ _ => some 0) → ∃ n T A, pg p z i n T A) ∧ ∀ z i, z 12 i = ii 1 → z 10 (200 * i) = ii 0 → pgs p z i := by
  have hz : cz (fun _ _ => 0) g0 := ⟨rfl, rfl, fun x hx => absurd hx (Nat.not_lt_zero x), fun q q1 q2 => by have q2 : q ≤ 0 := q2; omega, rfl⟩
  obtain ⟨p, e, h⟩ := c_add (N := N) (k := 0) (w := 15) (j := none) hz (by decide)
  have hca : ca p (cK (ad g0 0 15 none)) (fun x => ii (cW (ad g0 0 15 none) x)) (cJ (ad g0 0 15 none)) 1 0 (fun _ => 0) := by
    refine ⟨by omega, by omega, h.1, h.2.1, fun x hx => ?_, fun q hq => ⟨?_, Nat.zero_le _⟩, fun x t hx n e => ?_, fun x hx e => ?_⟩
    · obtain ⟨a1, a2, a3⟩ := h.2.2.1 x hx
      obtain rfl : x = 0 := by omega
      exact ⟨a1, by decide, a2, a3⟩
    · obtain rfl : q = 0 := by omega
      exact h.2.2.2.2
    · obtain rfl : x = 0 := by omega
      have e : (none : Option Nat) = some t := e
      cases e
    · obtain rfl : x = 0 := by omega
      have e : (0 : Nat) = 1 := e
      cases e
  obtain ⟨F, Lf, Rf, e1, e2, e3, e4⟩ := c_settle (N := N) hN hca
  refine ⟨se p F Lf Rf, ?_, h.2.2.2.2, fun z i h9 hm => ?_, fun z i h12 h10 => ?_⟩
  · unfold f_X6_init
    exact sb e (sb e1 rfl)
  · refine ⟨0, _, fun _ => 1, ⟨by omega, rT_g hca, fun q q1 q2 => by omega⟩, h.2.1, e2, fun q q1 q2 => by omega, e3, e4, h9, fun p a hp ha => ?_, fun q q1 q2 => by omega⟩
    obtain rfl : p = 0 := by omega
    rw [i_run ha rfl]
    exact hm 0 a (Nat.le_refl _) ha
  · refine ⟨ad g0 0 15 none, by show 1 ≤ 300; omega, ⟨by show 0 ≤ 16; omega, h.2.1⟩, by show 1 ≤ 199; omega, h.1, fun x hx => ?_, fun q q1 q2 => (h.2.2.2.1 q q1 q2).2, h12, fun x hx => ?_⟩
    · obtain ⟨a1, a2, a3⟩ := h.2.2.1 x hx
      obtain rfl : x = 0 := by have : x < 1 := hx; omega
      exact ⟨a1, a2, a3, by decide, by decide, fun y => (by have y : (0 : Nat) = 1 := y; cases y)⟩
    · obtain rfl : x = 0 := by have : x < 1 := hx; omega
      exact fun _ => ⟨h10, fun y => (by have y : (0 : Nat) = 1 := y; cases y), fun y => (by have y : (0 : Nat) = 2 ∨ (0 : Nat) = 3 ∨ (0 : Nat) = 4 := y; omega)⟩
theorem i_lays (hN : 1000 ≤ N) {i : Nat} (hi : i < 4) {z : ql_Z} (h3 : z.1 3 (400 * i) = ii 4) (h9 : z.1 9 i = ii 0) : ∃ F, f_X11_lays N z (ii i) = some (ql_up z.1 13 F, z.2) ∧ m_tab F i 0 (fun _ _ => some 0) ∧ ∀ x, (x < 68 * i ∨ 68 * i + 68 ≤ x) → F x = z.1 13 x := by
  have hma : ma z.1 i (fun _ => 4) (fun y => z.1 4 (400 * i + y)) (fun _ => none) (fun _ => none) 0 := by
    refine ⟨by omega, fun y hy => ?_⟩
    obtain rfl : y = 0 := by omega
    exact ⟨h3, (by show 4 < 5; omega), rfl, fun y => (by have y : (4 : Nat) = 1 ∨ (4 : Nat) = 2 := y; omega), fun y => (by have y : (4 : Nat) = 0 := y; omega), fun y => (by have y : (4 : Nat) = 1 := y; omega), fun y => (by have y : (4 : Nat) = 1 ∨ (4 : Nat) = 2 := y; omega)⟩
  exact m_lays (n := 0) (B := fun _ => 0) hN hma hi (by omega) h9 (fun p hp => Nat.le_refl _) rfl (fun p p1 p2 => by omega) (fun p a hp ha => by rw [mr_end rfl]; rfl)
theorem e_init (hN : 1000 ≤ N) : ∃ p z, f_X6_init N = some p ∧ f_X11_init N = some z ∧ ∀ u : ql_U, (∀ i, i < 5 → u.2.1 i = p) → u.1.1 1 0 = 0 → u.1.2.1 100 0 = 0 → RR u z := by
  obtain ⟨p, hp, p4, pA, pB⟩ := i_class (N := N) hN
  let za : ql_Z := ((ql_up (ql_up (ql_up (ql_up ql_z0.1 3 (upd (upd (upd (upd (ql_z0.1 3) 0 4) 400 4) 800 4) 1200 4)) 6 (upd (upd (upd (upd (ql_z0.1 6) 0 1) 1 1) 2 1) 3 1)) 10 (upd (upd (upd (upd (ql_z0.1 10) 0 0) 200 0) 400 0) 600 0)) 12 (upd (upd (upd (upd (ql_z0.1 12) 0 1) 1 1) 2 1) 3 1)), ql_z0.2)
  obtain ⟨F0, e0, a0, b0⟩ := i_lays (N := N) hN (show 0 < 4 by omega) (z := za) rfl rfl
  obtain ⟨F1, e1, a1, b1⟩ := i_lays (N := N) hN (show 1 < 4 by omega) (z := (ql_up za.1 13 F0, za.2)) rfl rfl
  obtain ⟨F2, e2, a2, b2⟩ := i_lays (N := N) hN (show 2 < 4 by omega) (z := (ql_up (ql_up za.1 13 F0) 13 F1, za.2)) rfl rfl
  obtain ⟨F3, e3, a3, b3⟩ := i_lays (N := N) hN (show 3 < 4 by omega) (z := (ql_up (ql_up (ql_up za.1 13 F0) 13 F1) 13 F2, za.2)) rfl rfl
  refine ⟨p, (ql_up (ql_up (ql_up (ql_up za.1 13 F0) 13 F1) 13 F2) 13 F3, za.2), hp, ?_, fun u hu h1 hT => ?_⟩
  · unfold f_X11_init
    exact sb e0 (sb e1 (sb e2 (sb e3 rfl)))
  · have b1 : ∀ x, (x < 68 * 1 ∨ 68 * 1 + 68 ≤ x) → F1 x = F0 x := b1
    have b2 : ∀ x, (x < 68 * 2 ∨ 68 * 2 + 68 ≤ x) → F2 x = F1 x := b2
    have b3 : ∀ x, (x < 68 * 3 ∨ 68 * 3 + 68 ≤ x) → F3 x = F2 x := b3
    have c : ∀ i, i < 4 → i = 0 ∨ i = 1 ∨ i = 2 ∨ i = 3 := fun i hi => by omega
    refine ⟨fun i hi => ?_, fun i hi => ?_, ⟨0, fun _ => 0, by omega, h1, rfl, fun j hj => by omega⟩, hT, fun i hi => by rw [hu i hi]; exact p4⟩
    · rw [hu i (by omega)]
      refine pA _ i ?_ (fun q a hq ha => ?_)
      · rcases c i hi with rfl | rfl | rfl | rfl <;> rfl
      · obtain rfl : q = 0 := by omega
        show F3 (68 * i + 4 * 0 + a) = em (some 0)
        rcases c i hi with rfl | rfl | rfl | rfl
        · rw [b3 _ (by omega), b2 _ (by omega), b1 _ (by omega)]; exact a0 0 a (Nat.le_refl _) ha
        · rw [b3 _ (by omega), b2 _ (by omega)]; exact a1 0 a (Nat.le_refl _) ha
        · rw [b3 _ (by omega)]; exact a2 0 a (Nat.le_refl _) ha
        · exact a3 0 a (Nat.le_refl _) ha
    · rw [hu i (by omega)]
      refine pB _ i ?_ ?_
      · rcases c i hi with rfl | rfl | rfl | rfl <;> rfl
      · rcases c i hi with rfl | rfl | rfl | rfl <;> rfl
end
