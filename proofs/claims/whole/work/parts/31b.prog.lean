/-! program -/
theorem nb_ne {j k : Nat} (h : j ≠ k) : Nat.beq j k = false := by
  cases e : Nat.beq j k with
  | false => rfl
  | true => exact absurd (Nat.eq_of_beq_eq_true e) h
theorem wt_lt {b : Nat → Nat} {s n : Nat} : ∀ f t, t + f ≤ 24 → wt b s n f t < 25
  | 0, t, _ => by show 24 < 25; omega
  | f + 1, t, h => by
    rw [wt]
    by_cases q : wm b s n t = true
    · rw [if_pos q]; omega
    · rw [if_neg q]; exact wt_lt f (t + 1) (by omega)
theorem sg_lt (c : Nat) : sg c < 25 := by
  unfold sg
  (repeat' split) <;> omega
theorem lx_lt {b : Nat → Nat} {L p s e t : Nat} (h : lx b L p s e t) : t < 25 := by
  rcases h.2 with ⟨_, _, rfl⟩ | ⟨_, _, _, rfl⟩ | ⟨_, _, _, rfl⟩
  · omega
  · exact sg_lt _
  · unfold wk5
    by_cases q : e - s < 6
    · rw [if_pos q]; exact wt_lt 15 0 (by omega)
    · rw [if_neg q]; omega
section
variable {N : Nat}
/-- the class's reading -/
theorem c_read (hN : 1000 ≤ N) {hp L : Nat} {B : Nat → Int32} {b : Nat → Nat} {z : ql_Y} (hL : L ≤ 300) (hB : ∀ j, j < L → b j < 256 ∧ B j = sx (b j)) (h4 : z.2 4 0 = ii 0) :
    ∃ tk bg nx c, ts b L tk bg nx c ∧ te_ok tk c ∧
      ((qP tk).1 = true ∧ tk (qP tk).2.1 = 23 → ∃ y p, cz p (qP tk).2.2 ∧ ∀ P', f_X6_settle N p = some P' → f_X7_read N hp B z (ii L) = some (-1, (y, P'))) ∧
      (¬ ((qP tk).1 = true ∧ tk (qP tk).2.1 = 23) → ∃ y p, p 4 0 = ii 0 ∧ f_X7_read N hp B z (ii L) = some (ii (bg (qP tk).2.1), (y, p))) := by
  obtain ⟨z', tk0, bg, nx, c, s1, s2, s3, s4, s5⟩ := c_scan (N := N) (z := z.1) hN hL hB
  let tk : Nat → Nat := fun k => if k ≤ c then tk0 k else 23
  have tke : ∀ k, k ≤ c → tk k = tk0 k := fun k hk => if_pos hk
  have ht : ts b L tk bg nx c := ⟨fun k hk => by rw [tke k hk]; exact s2.1 k hk, by rw [tke c (Nat.le_refl _)]; exact s2.2.1, s2.2.2⟩
  have hk0 : te_ok tk c := ⟨by omega, ht.2.1, fun k => by
    by_cases q : k ≤ c
    · exact lx_lt (ht.1 k q)
    · show (if k ≤ c then tk0 k else 23) < 25
      rw [if_neg q]; omega⟩
  refine ⟨tk, bg, nx, c, ht, hk0, ?_⟩
  generalize hy : ql_up (ql_up z' 2 (fun _ => 0)) 3 (fun _ => (-1 : Int32)) = y
  have y2 : ql_up y 2 (fun _ => ii 0) = y := by
    rw [← hy]; exact up_self (ql_up (ql_up z' 2 (fun _ => 0)) 3 (fun _ => (-1 : Int32))) 2
  have y3 : y 3 0 = -1 := by rw [← hy]; rfl
  have hcy : cy y tk bg c := fun j hj => by
    rw [tke j hj, ← hy]; exact s4 j hj
  let p0 : ql_St := ql_up (ql_up z.2 3 (fun _ => 0)) 6 (fun _ => 0)
  have hcz : cz p0 g0 := ⟨rfl, rfl, fun x hx => absurd hx (Nat.not_lt_zero x), fun q q1 q2 => by have q2 : q ≤ 0 := q2; omega, h4⟩
  have cs := c_sts (N := N) (o := 0) hN hk0 (c_stat hN hk0 10 0 (by omega) (by omega)) (fun k g hg => q1_rq hk0 10 0 k g hg) hcy (gok0 (c := c)) hcz
  rw [y2] at cs
  have hrq := qP_rq hk0
  have cs : cok bg (f_X7_readStatementsC N (y, p0) 0) y (qP tk) := cs
  generalize qP tk = r at cs hrq
  have st : f_X7_read N hp B z (ii L) = (f_X7_readStatementsC N (y, p0) 0).bind fun u3 => if u3.1 = 0 then f_X7_read_53 N hp B (u3.2.1, u3.2.2) else (f_X7_isNow N (u3.2.1, u3.2.2) 23).bind fun u5 => if u5.1 = 0 then f_X7_read_53 N hp B (u5.2.1, u5.2.2) else (f_X6_settle N u5.2.2).bind fun u7 => f_X7_read_53 N hp B (u5.2.1, u7) := by
    unfold f_X7_read f_X7_read_0
    have eL : (if (300 : Int32) < ii L then (300 : Int32) else ii L) = ii L := sn (lt_n (a := 300) L (by omega) (by omega)) rfl
    rw [eL]
    refine sb (a := p0) rfl (sb s1 ?_)
    rw [hy]
  rw [st]
  by_cases q : r.1 = true
  · obtain ⟨p', e, hz⟩ := cs.1 q
    have hk : r.2.1 ≤ c := hrq.1
    have tok := c_token (N := N) (y := (ql_up y 2 (fun _ => ii r.2.1), p')) hk0.1 (cy_f hcy rfl rfl) hk rfl
    have rf := c_refuse (N := N) (y := (ql_up y 2 (fun _ => ii r.2.1), p')) hk0.1 (cy_f hcy rfl rfl) hk rfl
    have t23 : ii (tk r.2.1) = (23 : Int32) ↔ tk r.2.1 = 23 := ii_eq (b := 23) (by have := hk0.2.2 r.2.1; omega) (by omega)
    refine ⟨fun x => ⟨ql_up y 2 (fun _ => ii r.2.1), p', hz, fun P' hP => ?_⟩, fun x => ⟨ql_up (ql_up y 2 (fun _ => ii r.2.1)) 3 (fun _ => ii (bg r.2.1)), p', hz.2.2.2.2, ?_⟩⟩
    · have en : f_X7_isNow N (ql_up y 2 (fun _ => ii r.2.1), p') 23 = some (1, (ql_up y 2 (fun _ => ii r.2.1), p')) := by
        unfold f_X7_isNow f_X7_isNow_0
        exact sb tok (sp (t23.mpr x.2) rfl)
      refine sb e (sn n10 (sb en (sn (show ¬ (1 : Int32) = 0 by decide) (sb hP ?_))))
      show some (y 3 0, _) = _
      rw [y3]
    · have en : f_X7_isNow N (ql_up y 2 (fun _ => ii r.2.1), p') 23 = some (0, (ql_up (ql_up y 2 (fun _ => ii r.2.1)) 3 (fun _ => ii (bg r.2.1)), p')) := by
        unfold f_X7_isNow f_X7_isNow_0
        exact sb tok (sn (fun y => x ⟨q, t23.mp y⟩) (sb rf (sp rfl rfl)))
      exact sb e (sn n10 (sb en (sp rfl rfl)))
  · obtain ⟨y', e, hz, hz4⟩ := cs.2 q
    refine ⟨fun x => absurd x.1 q, fun _ => ⟨y'.1, y'.2, hz4, ?_⟩⟩
    refine sb e (sp rfl ?_)
    show some (y'.1 3 0, _) = _
    rw [hz]
/-- the reference's -/
theorem m_prog (hN : 1000 ≤ N) {i L c : Nat} {b tk bg nx : Nat → Nat} (hi : i < 4) (ht : ts b L tk bg nx c) (hk0 : te_ok tk c) {z : ql_Z} (h : mtx z.1 b L) :
    ((qP tk).1 = true ∧ tk (qP tk).2.1 = 23 → ∃ z', f_X11_program N z (ii i) = some (ii (cN (qP tk).2.2), z') ∧ (∃ z1, mz z1 (qP tk).2.2) ∧ z'.2 = z.2 ∧ z'.1 2 0 = ii 0 ∧ z'.1 9 i = ii (cN (qP tk).2.2) ∧ z'.1 12 i = ii (us (qP tk).2.2 (cS (qP tk).2.2)) ∧
      m_tab (z'.1 13) i (cN (qP tk).2.2) (rT (cK (qP tk).2.2) (fun x => ii (cW (qP tk).2.2 x)) (cJ (qP tk).2.2) (cS (qP tk).2.2) (cB0 (qP tk).2.2)) ∧ m_act (z'.1 7) i (cN (qP tk).2.2) (cA (qP tk).2.2) ∧ (∀ x, x < cS (qP tk).2.2 → st1 z'.1 (200 * i) (qP tk).2.2 x) ∧
      ∀ j, j < 4 → j ≠ i → z'.1 9 j = z.1 9 j ∧ z'.1 12 j = z.1 12 j ∧ (∀ x, 68 * j ≤ x → x < 68 * j + 68 → z'.1 13 x = z.1 13 x) ∧ (∀ x, 17 * j ≤ x → x < 17 * j + 17 → z'.1 7 x = z.1 7 x) ∧ ∀ x, 200 * j ≤ x → x < 200 * j + 200 → z'.1 10 x = z.1 10 x ∧ z'.1 11 x = z.1 11 x) ∧
    (¬ ((qP tk).1 = true ∧ tk (qP tk).2.1 = 23) → ∃ z', f_X11_program N z (ii i) = some ((-10) - ii (bg (qP tk).2.1), z') ∧ fn z z' 0) := by
  have isP : f_X11_isProgram N (ii i) = some (ii 1) := by
    rcases ip_cases N (ii i) with ⟨_, _, _, _, m⟩ | ⟨c1, m⟩
    · exact m
    · exfalso
      have : f_X11_isProgram N (ii i) = some (ii 1) := by
        have t : ∀ i : Fin 4, f_X11_isProgram 0 (ii i.1) = some (ii 1) := by decide +kernel
        exact t ⟨i, hi⟩
      rw [this] at m
      exact n10 (Option.some.inj m)
  obtain ⟨R1, R2⟩ := m_reads (N := N) hN ht hk0 h
  have hrq := qP_rq hk0
  have hkq := qP_kq hk0
  generalize qP tk = r at *
  refine ⟨fun q => ?_, fun q => ?_⟩
  · obtain ⟨z1, e1, hm, hf⟩ := R1 q
    obtain ⟨_, hg, _⟩ := hrq.2.2 q.1
    obtain ⟨hkp, hug⟩ := hkq q.1
    have hug := hug (Nat.zero_le _)
    have flo' : ∀ x, x < cS r.2.2 → flo r.2.2 x := fun x hx => hkp.2.2 x (Nat.zero_le _) hx
    have hrc := hrq.1
    have hc := hk0.1
    generalize hg' : r.2.2 = g at *
    let zr : ql_Z := zp z1 (mm g (cS g)) (ii 4) (ii 0) (ii 0)
    let zs : ql_Z := (ql_up zr.1 2 (fun _ => 0), zr.2)
    obtain ⟨z5, e5, mv⟩ := m_moves (N := N) (i := i) (z := zs) hN hi
    have hma : ma z5.1 i (dD zr.1) (dV zr.1) (dL zr.1) (dQ zr.1) (mm g (cS g)) := ma_of (w := zr.1) hm hg hc flo' rfl (fun j hj => mv.2.2.1.1 j hj) (fun j hj => mv.2.2.2.1.1 j hj) (fun j hj => mv.2.2.2.2.1.1 j hj)
    have hcm : cm (cK g) (fun x => ii (cW g x)) (cJ g) (cS g) (dD zr.1) (dV zr.1) (dL zr.1) (dQ zr.1) (mm g) := cm_of hm hg hc flo'
    have h9 : z5.1 9 i = ii (cN g) := by
      rw [mv.2.2.2.2.2.2.2.2.2.2.1, ud_same]; exact hm.2.1
    have hS : cS g ≤ 300 := by have := hg.1; have := hg.2.2; omega
    obtain ⟨F, e6, hT, hFo⟩ := m_lays (N := N) (z := z5) (i := i) (n := cN g) (T := rT (cK g) (fun x => ii (cW g x)) (cJ g) (cS g) (cB0 g)) (B := fun p => mm g (cB0 g p)) hN hma hi hg.2.1 h9 (fun p hp => mm_mono (cB0_le hm hp)) rfl (fun p p1 p2 => by
        rw [mv.2.2.2.2.2.2.1.1 p (by have := hg.2.1; omega)]
        show z1.1 8 (68 + p) = _
        have : cB0 g p = cB g p := if_neg (by omega)
        rw [this]
        exact (hm.2.2.2.2.1 p (by omega) p2).2.1) (fun p a hp ha => (rn_eq hcm ha (fun x t hx n e => (hm.2.2.2.2.2 x t hx e).2 n) hS (cB0_le hm hp)).symm)
    refine ⟨(ql_up z5.1 13 F, z5.2), ?_, ⟨z1.1, hm⟩, ?_, ?_, h9, ?_, hT, fun p p1 p2 => ?_, fun x hx => ?_, fun j hj ji => ⟨?_, ?_, fun x x1 x2 => ?_, fun x x1 x2 => ?_, fun x x1 x2 => ?_⟩⟩
    · unfold f_X11_program f_X11_program_0
      refine sb isP (sn n10 (sb e1 (sn n10 (sb e5 (sb e6 ?_)))))
      show (if ql_ib (ii i) 5 = true then some (z5.1 9 (ii i).toNatClampNeg, _) else none) = _
      rw [ii_nat (by omega), h9]
      exact sp (ii_ib (by omega) (by omega)) rfl
    · show z5.2 = z.2
      rw [mv.2.1]; exact hf.2.2.2.2.2.2.1
    · show z5.1 2 0 = ii 0
      rw [mv.1 2 (by omega)]; rfl
    · show z5.1 12 i = _
      rw [mv.2.2.2.2.2.2.2.2.2.2.2, ud_same]; exact hm.2.2.1
    · show z5.1 7 (17 * i + p) = _
      rw [mv.2.2.2.2.2.1.1 p (by have := hg.2.1; omega)]
      exact (hm.2.2.2.2.1 p p1 p2).1
    · refine st1_k (hm.2.2.2.1 x hx).2 (fun h5 => ?_)
      have l1 := us_lt h5 hx
      have l2 : 2 * us g (cS g) ≤ r.2.1 + 1 := hug
      exact ⟨mv.2.2.2.2.2.2.2.1.1 _ (by omega), mv.2.2.2.2.2.2.2.2.1.1 _ (by omega)⟩
    · show z5.1 9 j = _
      rw [mv.2.2.2.2.2.2.2.2.2.2.1, ud_ne ji]
      exact (hf.2.2.2.2.2.1 j (by omega)).1
    · show z5.1 12 j = _
      rw [mv.2.2.2.2.2.2.2.2.2.2.2, ud_ne ji]
      exact (hf.2.2.2.2.2.1 j (by omega)).2
    · show F x = _
      rw [hFo x (by omega), mv.1 13 (by omega)]
      show z1.1 13 x = _
      rw [hf.2.2.1]
    · show z5.1 7 x = _
      rw [mv.2.2.2.2.2.1.2 x (by omega)]
      exact hf.2.2.2.1 x (by omega)
    · show z5.1 10 x = _ ∧ z5.1 11 x = _
      rw [mv.2.2.2.2.2.2.2.1.2 x (by omega), mv.2.2.2.2.2.2.2.2.1.2 x (by omega)]
      exact hf.2.2.2.2.1 x (by omega)
  · obtain ⟨z1, e1, e16, hf⟩ := R2 q
    refine ⟨z1, ?_, hf⟩
    unfold f_X11_program f_X11_program_0
    refine sb isP (sn n10 (sb e1 (sp rfl ?_)))
    show some ((-10) - z1.1 16 0, z1) = _
    rw [e16]
/-- program -/
theorem e_program (hN : 1000 ≤ N) {u : ql_U} {z : ql_Z} (R : RR u z) (x1 : Int32) : ∃ r u' z', f_X10_program N u x1 = some (r, u') ∧ f_X11_program N z x1 = some (r, z') ∧ RR u' z' := by
  obtain ⟨Rp, Rs, ⟨L, b, hL, v1, z2, hb⟩, Rt, R4⟩ := R
  rcases ip_cases N x1 with ⟨i, hi, rfl, c1, m1⟩ | ⟨c1, m1⟩
  · obtain ⟨tk, bg, nx, c, ht, hk0, C1, C2⟩ := c_read (N := N) (hp := u.2.2 4 100) (B := u.1.1 0) (z := (u.1.2.2.1, u.2.1 4)) hN hL (fun j hj => ⟨(hb j hj).1, (hb j hj).2.2⟩) (R4 4 (by omega))
    obtain ⟨M1, M2⟩ := m_prog (N := N) (i := i) (z := z) hN hi ht hk0 ⟨hL, z2, fun j hj => ⟨(hb j hj).1, (hb j hj).2.1⟩⟩
    have hrq := qP_rq hk0
    have hkq := qP_kq hk0
    generalize qP tk = r at *
    by_cases q : r.1 = true ∧ tk r.2.1 = 23
    · obtain ⟨y, p, hcz, hset⟩ := C1 q
      obtain ⟨z', f1, ⟨z1, hm⟩, f2, f3, f4, f5, f6, f7, f8, f9⟩ := M1 q
      obtain ⟨_, hg, _⟩ := hrq.2.2 q.1
      obtain ⟨hkp, hug⟩ := hkq q.1
      have hug := hug (Nat.zero_le _)
      have hrc := hrq.1
      have hc := hk0.1
      have hca := ca_of hcz hm hg hc
      obtain ⟨F, Lf, Rf, e1, e2, e3, e4⟩ := c_settle (N := N) hN hca
      have rd := hset _ e1
      refine ⟨ii (cN r.2.2), ((ql_up u.1.1 1 (fun _ => 0), u.1.2.1, y, u.1.2.2.2), ql_w4 (ql_pu u.2.1 4 (se p F Lf Rf)) i, ql_w4 u.2.2 i), z', ?_, f1, ?_⟩
      · unfold f_X10_program
        refine sb c1 (sn n10 ?_)
        rw [v1]
        refine sb rd (sp rfl (sp (ii_ib (by omega) (by omega)) ?_))
        rw [ii_nat (by omega)]
        show some (p 6 0, _) = _
        rw [hcz.2.1]
      · have Pi : ql_w4 (ql_pu u.2.1 4 (se p F Lf Rf)) i i = se p F Lf Rf := by
          unfold ql_w4 ql_pu
          simp only [Nat.beq_refl, cond_true]
        have Pj : ∀ j, j < 4 → j ≠ i → ql_w4 (ql_pu u.2.1 4 (se p F Lf Rf)) i j = u.2.1 j := fun j hj ji => by
          have b1 : Nat.beq j i = false := nb_ne ji
          have b2 : Nat.beq j 4 = false := nb_ne (by omega)
          unfold ql_w4 ql_pu
          simp only [b1, b2, cond_false]
        have P4 : ql_w4 (ql_pu u.2.1 4 (se p F Lf Rf)) i 4 = u.2.1 i := by
          have b1 : Nat.beq 4 i = false := nb_ne (by omega)
          have b2 : Nat.beq i 4 = false := nb_ne (by omega)
          unfold ql_w4 ql_pu
          simp only [b1, b2, cond_false, Nat.beq_refl, cond_true]
        have s4 : se p F Lf Rf 4 0 = ii 0 := hcz.2.2.2.2
        refine ⟨fun j hj => ?_, fun j hj => ?_, ⟨0, b, by omega, rfl, f3, fun j hj => by omega⟩, ?_, fun j hj => ?_⟩
        · by_cases ji : j = i
          · rw [ji]
            show ∃ n T A, pg (ql_w4 (ql_pu u.2.1 4 (se p F Lf Rf)) i i) z'.1 i n T A
            rw [Pi]
            exact ⟨cN r.2.2, _, cA r.2.2, ⟨hg.2.1, rT_g hca, fun q q1 q2 => (hm.2.2.2.2.1 q q1 q2).2.2.2⟩, hcz.2.1, e2, fun q q1 q2 => (hcz.2.2.2.1 q q1 q2).2, e3, e4, f4, f6, f7⟩
          · obtain ⟨n, T, A, hpg⟩ := Rp j hj
            obtain ⟨k1, k2, k3, k4, k5⟩ := f9 j hj ji
            refine ⟨n, T, A, ?_⟩
            show pg (ql_w4 (ql_pu u.2.1 4 (se p F Lf Rf)) i j) z'.1 j n T A
            rw [Pj j hj ji]
            exact pg_k hpg k1 k3 k4
        · by_cases ji : j = i
          · rw [ji]
            show pgs (ql_w4 (ql_pu u.2.1 4 (se p F Lf Rf)) i i) z'.1 i
            rw [Pi]
            refine ⟨r.2.2, by have := hg.1; omega, ⟨hg.2.1, hcz.2.1⟩, ?_, hcz.1, fun x hx => ?_, fun q q1 q2 => (hcz.2.2.2.1 q q1 q2).2, f5, f8⟩
            · have : 2 * us r.2.2 (cS r.2.2) ≤ r.2.1 + 1 := hug
              omega
            · obtain ⟨a1, a2, a3⟩ := hcz.2.2.1 x hx
              exact ⟨a1, a2, a3, (k_of hm hx).1, (hkp.2.2 x (Nat.zero_le _) hx).1, (k_of hm hx).2⟩
          · obtain ⟨k1, k2, k3, k4, k5⟩ := f9 j hj ji
            show pgs (ql_w4 (ql_pu u.2.1 4 (se p F Lf Rf)) i j) z'.1 j
            rw [Pj j hj ji]
            exact pgs_k (Rs j hj) k2 k5
        · show u.1.2.1 100 0 = z'.2 0 0
          rw [f2]; exact Rt
        · show ql_w4 (ql_pu u.2.1 4 (se p F Lf Rf)) i j 4 0 = ii 0
          by_cases j4 : j = 4
          · rw [j4, P4]; exact R4 i (by omega)
          · by_cases ji : j = i
            · rw [ji, Pi]; exact s4
            · rw [Pj j (by omega) ji]; exact R4 j hj
    · obtain ⟨y, p, hp4, rd⟩ := C2 q
      obtain ⟨z', f1, hf⟩ := M2 q
      refine ⟨(-10) - ii (bg r.2.1), ((u.1.1, u.1.2.1, y, u.1.2.2.2), ql_pu u.2.1 4 p, u.2.2), z', ?_, f1, ?_⟩
      · unfold f_X10_program
        refine sb c1 (sn n10 ?_)
        rw [v1]
        refine sb rd (sn (fun x => ?_) rfl)
        have hbg : bg r.2.1 ≤ L := by
          have hk : r.2.1 ≤ c := hrq.1
          by_cases e : r.2.1 = c
          · rw [e, ht.2.2.1]; exact Nat.le_refl _
          · have := ht.2.2.2 r.2.1 (by omega); omega
        have := (ii_eq_ni (show 1 < 2147483648 by omega) (show bg r.2.1 < 2147483648 by omega)).mp x
        omega
      · have Pj : ∀ j, j < 4 → ql_pu u.2.1 4 p j = u.2.1 j := fun j hj => by
          have b2 : Nat.beq j 4 = false := nb_ne (by omega)
          unfold ql_pu
          simp only [b2, cond_false]
        refine ⟨fun j hj => ?_, fun j hj => ?_, ⟨L, b, hL, v1, ?_, fun j hj => ?_⟩, ?_, fun j hj => ?_⟩
        · obtain ⟨n, T, A, hpg⟩ := Rp j hj
          refine ⟨n, T, A, ?_⟩
          show pg (ql_pu u.2.1 4 p j) z'.1 j n T A
          rw [Pj j hj]
          exact pg_k hpg (hf.2.2.2.2.2.1 j (by omega)).1 (fun x _ _ => by rw [hf.2.2.1]) (fun x _ _ => hf.2.2.2.1 x (by omega))
        · show pgs (ql_pu u.2.1 4 p j) z'.1 j
          rw [Pj j hj]
          exact pgs_k (Rs j hj) (hf.2.2.2.2.2.1 j (by omega)).2 (fun x _ _ => hf.2.2.2.2.1 x (by omega))
        · rw [hf.2.1]; exact z2
        · rw [hf.1]; exact hb j hj
        · show u.1.2.1 100 0 = z'.2 0 0
          rw [hf.2.2.2.2.2.2.1]; exact Rt
        · show ql_pu u.2.1 4 p j 4 0 = ii 0
          by_cases j4 : j = 4
          · rw [j4]; exact hp4
          · rw [Pj j (by omega)]; exact R4 j hj
  · refine ⟨-1, u, z, ?_, ?_, ⟨Rp, Rs, ⟨L, b, hL, v1, z2, hb⟩, Rt, R4⟩⟩
    · unfold f_X10_program
      exact sb c1 (sp rfl rfl)
    · unfold f_X11_program f_X11_program_0
      exact sb m1 (sp rfl rfl)
end
