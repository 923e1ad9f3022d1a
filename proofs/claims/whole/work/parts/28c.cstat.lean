/-! the class's reading of a statement -/
section
variable {N c : Nat} {tk bg : Nat → Nat}
theorem ql_bz_s {F : Option (Int32 × ql_Y)} {y : ql_St} {r : cR} (h : cok bg F y r) : cok bg (F.bind fun u => if ql_bz u.1 = true then some (u.1, u.2) else none) y r := by
  refine ⟨fun hr => ?_, fun hr => ?_⟩
  · obtain ⟨p', e, z⟩ := h.1 hr
    exact ⟨p', sb e (sp bz_1 rfl), z⟩
  · obtain ⟨y', e, z⟩ := h.2 hr
    exact ⟨y', sb e (sp bz_0 rfl), z⟩
theorem st_up1 {y p : ql_St} {k : Nat} : (((ql_up ((ql_up y 2 (fun _ => ii k), p) : ql_Y).1 2 (fun _ => (((ql_up y 2 (fun _ => ii k), p) : ql_Y).1 2 0 + 1))), ((ql_up y 2 (fun _ => ii k), p) : ql_Y).2) : ql_Y) = (ql_up y 2 (fun _ => ii (k + 1)), p) := by
  show (ql_up (ql_up y 2 (fun _ => ii k)) 2 (fun _ => ii k + 1), p) = _
  rw [up_up, lk_1, ii_add]
theorem nm1 {v : Nat} (h : v < 16) : ¬ ii v = (-1 : Int32) := fun x => by have := (ii_eq_ni (show 1 < 2147483648 by omega) (show v < 2147483648 by omega)).mp x; omega
/-- a word that must stand there -/
theorem c_tk2 (ht : te_ok tk c) {y p : ql_St} {k w : Nat} (hy : cy y tk bg c) (hk : k ≤ c) (hw : w < 23) :
    (tk k = w → f_X7_take N (ql_up y 2 (fun _ => ii k), p) (ii w) = some (ii 1, (ql_up y 2 (fun _ => ii (k + 1)), p))) ∧ (tk k ≠ w → f_X7_take N (ql_up y 2 (fun _ => ii k), p) (ii w) = some (ii 0, (ql_up (ql_up y 2 (fun _ => ii k)) 3 (fun _ => ii (bg k)), p))) := by
  obtain ⟨a, b⟩ := c_tak (N := N) (y := (ql_up y 2 (fun _ => ii k), p)) ht (cy_f hy rfl rfl) hk rfl hw
  refine ⟨fun h => ?_, b⟩
  rw [a h]
  exact congrArg some (Prod.ext rfl (Prod.ext (up_up _ _ _ _) rfl))
theorem c_choice (hN : 1000 ≤ N) (ht : te_ok tk c) {r1 : ql_Y → Int32 → Option (Int32 × ql_Y)} {q : Nat → Nat → cT → cR} {o : Nat} (ho : o ≤ 8) (hr : sok tk bg c r1 q o) (hq : ∀ k g, gok c k g → rq c k g (q o k g)) {y p : ql_St} {k : Nat} {g : cT} (hy : cy y tk bg c) (hg : gok c k g) (hk : k < c) (hp : cz p g) : cok bg (f_X7_readChoice N r1 (ql_up y 2 (fun _ => ii k), p) (ii o)) y (qC tk q o k g) := by
  have hc := ht.1
  unfold f_X7_readChoice f_X7_readChoice_0 qC
  rw [st_up1]
  have ct := c_test (N := N) (y := (y, p)) hN ht hy ho (show k + 1 ≤ c by omega)
  obtain ⟨t1, t2, t3, t4⟩ := pt_ro ht (o := o) (show k + 1 ≤ c by omega)
  by_cases c1 : (pt tk o (k + 1)).1 = true
  · rw [if_pos c1]
    rw [rs_t c1] at ct
    have t4 := t4 c1
    obtain ⟨k1, k2⟩ := c_tk2 (N := N) (p := p) ht hy t2 (show 3 < 23 by omega)
    by_cases c3 : tk (pt tk o (k + 1)).2.2 = 3
    · rw [if_pos c3]
      have hne : (pt tk o (k + 1)).2.2 ≠ c := fun x => by rw [x, ht.2.1] at c3; omega
      have hS := hg.1
      obtain ⟨p1, e1, z1⟩ := c_add (N := N) (k := 2) (w := (pt tk o (k + 1)).2.1) (j := none) hp (by omega)
      have hg1 : gok c ((pt tk o (k + 1)).2.2 + 1) (ad g 2 (pt tk o (k + 1)).2.1 none) := ⟨by show cS g + 1 ≤ _; omega, hg.2.1, by omega⟩
      have cs := c_sts (N := N) hN ht hr hq hy hg1 z1
      have rqs := qs_rq ht hq hg1
      generalize qs tk q o ((pt tk o (k + 1)).2.2 + 1) (ad g 2 (pt tk o (k + 1)).2.1 none) = r at cs rqs
      obtain ⟨r1', r2', r3'⟩ := rqs
      show cok bg _ y (if r.1 = true then _ else _)
      by_cases c2 : r.1 = true
      · rw [if_pos c2]
        obtain ⟨p2, e2, z2⟩ := cs.1 c2
        obtain ⟨b1, b2, b3⟩ := r3' c2
        have b3 : cS g + 1 < cS r.2.2 := b3
        have b21 := b2.1
        have tok := c_token (N := N) (y := (ql_up y 2 (fun _ => ii r.2.1), p2)) hc (cy_f hy rfl rfl) r1' rfl
        have h25 := ht.2.2 r.2.1
        have t4' : ii (tk r.2.1) = ii 4 ↔ tk r.2.1 = 4 := ii_eq (by omega) (by omega)
        have ibS : ql_ib (ii (cS g)) 300 = true := ii_ib (by omega) (by omega)
        by_cases c4 : tk r.2.1 = 4
        · rw [if_pos c4]
          have hne2 : r.2.1 ≠ c := fun x => by rw [x, ht.2.1] at c4; omega
          obtain ⟨p3, e3, z3⟩ := c_add (N := N) (k := 5) (w := 0) (j := none) z2 (by omega)
          have z4 := c_to (s := cS g) z3
          have hg2 : gok c (r.2.1 + 1) (pj (ad r.2.2 5 0 none) (cS g) (cS r.2.2 + 1)) := ⟨by show cS r.2.2 + 1 ≤ _; omega, b2.2.1, by omega⟩
          have cs2 := c_sts (N := N) hN ht hr hq hy hg2 z4
          have rqs2 := qs_rq ht hq hg2
          generalize qs tk q o (r.2.1 + 1) (pj (ad r.2.2 5 0 none) (cS g) (cS r.2.2 + 1)) = w at cs2 rqs2
          obtain ⟨w1', w2', w3'⟩ := rqs2
          show cok bg _ y (if w.1 = true then _ else _)
          have pre : ∀ X, (∀ u12, f_X7_readStatements N r1 (ql_up y 2 (fun _ => ii (r.2.1 + 1)), ql_up p3 2 (upd (p3 2) (cS g) (p3 3 0))) (ii o) = some u12 → (if u12.1 = 0 then some (0, u12.2) else if ql_ib (ii (cS r.2.2)) 300 = true then f_X7_readChoice_146 N r1 (u12.2.1, (ql_up u12.2.2 2 (upd (u12.2.2 2) (ii (cS r.2.2)).toNatClampNeg (u12.2.2 3 0)))) else none) = X) → (∃ u12, f_X7_readStatements N r1 (ql_up y 2 (fun _ => ii (r.2.1 + 1)), ql_up p3 2 (upd (p3 2) (cS g) (p3 3 0))) (ii o) = some u12) →
              ((f_X7_readTestC N (ql_up y 2 (fun _ => ii (k + 1)), p) (ii o)).bind fun u2 => if u2.1 = (-1) then some (0, u2.2) else (f_X7_take N u2.2 3).bind fun u4 => if u4.1 = 0 then some (0, u4.2) else (f_X6_add N u4.2.2 2 u2.1 (-9)).bind fun u6 => (f_X7_readStatements N r1 (u4.2.1, u6.2) (ii o)).bind fun u7 => if u7.1 = 0 then some (0, u7.2) else (f_X7_token N u7.2).bind fun u9 => if u9 = 4 then (f_X6_add N u7.2.2 5 0 (-9)).bind fun u11 => if ql_ib u6.1 300 = true then (f_X7_readStatements N r1 ((ql_up u7.2.1 2 (fun _ => ((u7.2.1 2 0) + 1))), (ql_up u11.2 2 (upd (u11.2 2) u6.1.toNatClampNeg (u11.2 3 0)))) (ii o)).bind fun u12 => if u12.1 = 0 then some (0, u12.2) else if ql_ib u11.1 300 = true then f_X7_readChoice_146 N r1 (u12.2.1, (ql_up u12.2.2 2 (upd (u12.2.2 2) u11.1.toNatClampNeg (u12.2.2 3 0)))) else none else none else if ql_ib u6.1 300 = true then f_X7_readChoice_146 N r1 (u7.2.1, (ql_up u7.2.2 2 (upd (u7.2.2 2) u6.1.toNatClampNeg (u7.2.2 3 0)))) else none) = X := fun X hX ⟨u12, e12⟩ => by
            refine sb ct (sn (nm1 t1) (sb (k1 c3) (sn n10 (sb e1 (sb e2 (sn n10 (sb tok (sp (t4'.mpr c4) (sb e3 (sp ibS ?_))))))))))
            have est : ql_up (ql_up y 2 (fun _ => ii r.2.1)) 2 (fun _ => ii r.2.1 + 1) = ql_up y 2 (fun _ => ii (r.2.1 + 1)) := by rw [up_up, lk_1, ii_add]
            show (f_X7_readStatements N r1 (ql_up (ql_up y 2 (fun _ => ii r.2.1)) 2 (fun _ => ii r.2.1 + 1), ql_up p3 2 (upd (p3 2) (ii (cS g)).toNatClampNeg (p3 3 0))) (ii o)).bind _ = X
            rw [est, ii_nat (show cS g < 2147483648 by omega)]
            exact sb e12 (hX u12 e12)
          by_cases c5 : w.1 = true
          · rw [if_pos c5]
            obtain ⟨p5, e5, z5⟩ := cs2.1 c5
            obtain ⟨d1, d2, d3⟩ := w3' c5
            have z6 := c_to (s := cS r.2.2) z5
            obtain ⟨l1, l2⟩ := c_tk2 (N := N) (p := ql_up p5 2 (upd (p5 2) (cS r.2.2) (p5 3 0))) ht hy w1' (show 5 < 23 by omega)
            have ibR : ql_ib (ii (cS r.2.2)) 300 = true := ii_ib (by omega) (by omega)
            by_cases c6 : tk w.2.1 = 5
            · rw [if_pos c6]
              refine cok_t (pre _ (fun u hu => ?_) ⟨_, e5⟩) z6
              rw [e5] at hu
              rw [← Option.some.inj hu]
              refine sn n10 (sp ibR ?_)
              unfold f_X7_readChoice_146
              show (f_X7_take N (ql_up y 2 (fun _ => ii w.2.1), ql_up p5 2 (upd (p5 2) (ii (cS r.2.2)).toNatClampNeg (p5 3 0))) 5).bind _ = _
              rw [ii_nat (by omega)]
              exact sb (l1 c6) (sp bz_1 rfl)
            · rw [if_neg c6]
              refine cok_f (y' := (ql_up (ql_up y 2 (fun _ => ii w.2.1)) 3 (fun _ => ii (bg w.2.1)), ql_up p5 2 (upd (p5 2) (cS r.2.2) (p5 3 0)))) (pre _ (fun u hu => ?_) ⟨_, e5⟩) ⟨rfl, z5.2.2.2.2⟩
              rw [e5] at hu
              rw [← Option.some.inj hu]
              refine sn n10 (sp ibR ?_)
              unfold f_X7_readChoice_146
              show (f_X7_take N (ql_up y 2 (fun _ => ii w.2.1), ql_up p5 2 (upd (p5 2) (ii (cS r.2.2)).toNatClampNeg (p5 3 0))) 5).bind _ = _
              rw [ii_nat (by omega)]
              exact sb (l2 c6) (sp bz_0 rfl)
          · rw [if_neg c5]
            obtain ⟨y', e5, z5⟩ := cs2.2 c5
            refine cok_f (pre _ (fun u hu => ?_) ⟨_, e5⟩) z5
            rw [e5] at hu
            rw [← Option.some.inj hu]
            exact sp rfl rfl
        · rw [if_neg c4]
          have z6 := c_to (s := cS g) z2
          obtain ⟨l1, l2⟩ := c_tk2 (N := N) (p := ql_up p2 2 (upd (p2 2) (cS g) (p2 3 0))) ht hy r1' (show 5 < 23 by omega)
          by_cases c6 : tk r.2.1 = 5
          · rw [if_pos c6]
            refine cok_t ?_ z6
            refine sb ct (sn (nm1 t1) (sb (k1 c3) (sn n10 (sb e1 (sb e2 (sn n10 (sb tok (sn (fun x => c4 (t4'.mp x)) (sp ibS ?_)))))))))
            unfold f_X7_readChoice_146
            show (f_X7_take N (ql_up y 2 (fun _ => ii r.2.1), ql_up p2 2 (upd (p2 2) (ii (cS g)).toNatClampNeg (p2 3 0))) 5).bind _ = _
            rw [ii_nat (by omega)]
            exact sb (l1 c6) (sp bz_1 rfl)
          · rw [if_neg c6]
            refine cok_f (y' := (ql_up (ql_up y 2 (fun _ => ii r.2.1)) 3 (fun _ => ii (bg r.2.1)), ql_up p2 2 (upd (p2 2) (cS g) (p2 3 0)))) ?_ ⟨rfl, z2.2.2.2.2⟩
            refine sb ct (sn (nm1 t1) (sb (k1 c3) (sn n10 (sb e1 (sb e2 (sn n10 (sb tok (sn (fun x => c4 (t4'.mp x)) (sp ibS ?_)))))))))
            unfold f_X7_readChoice_146
            show (f_X7_take N (ql_up y 2 (fun _ => ii r.2.1), ql_up p2 2 (upd (p2 2) (ii (cS g)).toNatClampNeg (p2 3 0))) 5).bind _ = _
            rw [ii_nat (by omega)]
            exact sb (l2 c6) (sp bz_0 rfl)
      · rw [if_neg c2]
        obtain ⟨y', e2, z2⟩ := cs.2 c2
        exact cok_f (sb ct (sn (nm1 t1) (sb (k1 c3) (sn n10 (sb e1 (sb e2 (sp rfl rfl))))))) z2
    · rw [if_neg c3]
      exact cok_f (sb ct (sn (nm1 t1) (sb (k2 c3) (sp rfl rfl)))) ⟨rfl, hp.2.2.2.2⟩
  · rw [if_neg c1]
    rw [rs_n c1] at ct
    exact cok_f (sb ct (sp rfl rfl)) ⟨rfl, hp.2.2.2.2⟩
theorem c_loop (hN : 1000 ≤ N) (ht : te_ok tk c) {r1 : ql_Y → Int32 → Option (Int32 × ql_Y)} {q : Nat → Nat → cT → cR} {o : Nat} (ho : o ≤ 8) (hr : sok tk bg c r1 q o) (hq : ∀ k g, gok c k g → rq c k g (q o k g)) {y p : ql_St} {k : Nat} {g : cT} (hy : cy y tk bg c) (hg : gok c k g) (hk : k < c) (hp : cz p g) : cok bg (f_X7_readLoop N r1 (ql_up y 2 (fun _ => ii k), p) (ii o)) y (qW tk q o k g) := by
  have hc := ht.1
  unfold f_X7_readLoop f_X7_readLoop_0 qW
  rw [st_up1]
  have ct := c_test (N := N) (y := (y, p)) hN ht hy ho (show k + 1 ≤ c by omega)
  obtain ⟨t1, t2, t3, t4⟩ := pt_ro ht (o := o) (show k + 1 ≤ c by omega)
  by_cases c1 : (pt tk o (k + 1)).1 = true
  · rw [if_pos c1]
    rw [rs_t c1] at ct
    have t4 := t4 c1
    obtain ⟨k1, k2⟩ := c_tk2 (N := N) (p := p) ht hy t2 (show 7 < 23 by omega)
    by_cases c3 : tk (pt tk o (k + 1)).2.2 = 7
    · rw [if_pos c3]
      have hne : (pt tk o (k + 1)).2.2 ≠ c := fun x => by rw [x, ht.2.1] at c3; omega
      have hS := hg.1
      obtain ⟨p1, e1, z1⟩ := c_add (N := N) (k := 3) (w := (pt tk o (k + 1)).2.1) (j := none) hp (by omega)
      have hg1 : gok c ((pt tk o (k + 1)).2.2 + 1) (ad g 3 (pt tk o (k + 1)).2.1 none) := ⟨by show cS g + 1 ≤ _; omega, hg.2.1, by omega⟩
      have cs := c_sts (N := N) hN ht hr hq hy hg1 z1
      have rqs := qs_rq ht hq hg1
      generalize qs tk q o ((pt tk o (k + 1)).2.2 + 1) (ad g 3 (pt tk o (k + 1)).2.1 none) = r at cs rqs
      obtain ⟨r1', r2', r3'⟩ := rqs
      show cok bg _ y (if r.1 = true then _ else _)
      by_cases c2 : r.1 = true
      · rw [if_pos c2]
        obtain ⟨p2, e2, z2⟩ := cs.1 c2
        obtain ⟨b1, b2, b3⟩ := r3' c2
        have b3 : cS g + 1 < cS r.2.2 := b3
        have b21 := b2.1
        have ibS : ql_ib (ii (cS g)) 300 = true := ii_ib (by omega) (by omega)
        by_cases c6 : tk r.2.1 = 8
        · rw [if_pos c6]
          have hne2 : r.2.1 ≠ c := fun x => by rw [x, ht.2.1] at c6; omega
          obtain ⟨p3, e3, z3⟩ := c_add (N := N) (k := 5) (w := 0) (j := some (cS g)) z2 (by omega)
          have z4 := c_to (s := cS g) z3
          obtain ⟨l1, l2⟩ := c_tk2 (N := N) (p := ql_up p3 2 (upd (p3 2) (cS g) (p3 3 0))) ht hy r1' (show 8 < 23 by omega)
          refine cok_t ?_ z4
          refine sb ct (sn (nm1 t1) (sb (k1 c3) (sn n10 (sb e1 (sb e2 (sn n10 (sb e3 (sp ibS ?_))))))))
          show (f_X7_take N (ql_up y 2 (fun _ => ii r.2.1), ql_up p3 2 (upd (p3 2) (ii (cS g)).toNatClampNeg (p3 3 0))) 8).bind _ = _
          rw [ii_nat (by omega)]
          exact sb (l1 c6) (sp bz_1 rfl)
        · rw [if_neg c6]
          obtain ⟨u, e3, e34⟩ : ∃ u : Int32 × ql_St, f_X6_add N p2 5 0 (ii (cS g)) = some u ∧ u.2 4 0 = ii 0 := by
            unfold f_X6_add f_X6_add_0
            rw [z2.1]
            by_cases l : (299 : Int32) < ii (cS r.2.2)
            · rw [if_pos l]
              have ib : ql_ib (299 : Int32) 300 = true := by decide +kernel
              exact ⟨_, sp ib (sp ib (sp ib rfl)), z2.2.2.2.2⟩
            · rw [if_neg l]
              have : cS r.2.2 ≤ 299 := Nat.le_of_not_lt (fun x => l (lt_y (a := 299) _ x (by omega)))
              have ib : ql_ib (ii (cS r.2.2)) 300 = true := ii_ib (by omega) (by omega)
              exact ⟨_, sp ib (sp ib (sp ib rfl)), z2.2.2.2.2⟩
          obtain ⟨l1, l2⟩ := c_tk2 (N := N) (p := ql_up u.2 2 (upd (u.2 2) (cS g) (u.2 3 0))) ht hy r1' (show 8 < 23 by omega)
          refine cok_f (y' := (ql_up (ql_up y 2 (fun _ => ii r.2.1)) 3 (fun _ => ii (bg r.2.1)), ql_up u.2 2 (upd (u.2 2) (cS g) (u.2 3 0)))) ?_ ⟨rfl, e34⟩
          refine sb ct (sn (nm1 t1) (sb (k1 c3) (sn n10 (sb e1 (sb e2 (sn n10 (sb e3 (sp ibS ?_))))))))
          show (f_X7_take N (ql_up y 2 (fun _ => ii r.2.1), ql_up u.2 2 (upd (u.2 2) (ii (cS g)).toNatClampNeg (u.2 3 0))) 8).bind _ = _
          rw [ii_nat (by omega)]
          exact sb (l2 c6) (sp bz_0 rfl)
      · rw [if_neg c2]
        obtain ⟨y', e2, z2⟩ := cs.2 c2
        exact cok_f (sb ct (sn (nm1 t1) (sb (k1 c3) (sn n10 (sb e1 (sb e2 (sp rfl rfl))))))) z2
    · rw [if_neg c3]
      exact cok_f (sb ct (sn (nm1 t1) (sb (k2 c3) (sp rfl rfl)))) ⟨rfl, hp.2.2.2.2⟩
  · rw [if_neg c1]
    rw [rs_n c1] at ct
    exact cok_f (sb ct (sp rfl rfl)) ⟨rfl, hp.2.2.2.2⟩
theorem c_rf2 (hc : c ≤ 300) {y p : ql_St} {k : Nat} {g : cT} (hy : cy y tk bg c) (hk : k ≤ c) (h4 : p 4 0 = ii 0) : cok bg ((f_X7_refuse N (ql_up y 2 (fun _ => ii k), p)).bind fun u1 => if ql_bz u1.1 = true then some (u1.1, u1.2) else none) y (false, k, g) :=
  cok_f (sb (c_refuse hc (cy_f hy rfl rfl) hk rfl) (sp bz_0 rfl)) ⟨rfl, h4⟩
theorem c_stat (hN : 1000 ≤ N) (ht : te_ok tk c) : ∀ d o, o ≤ 8 → 9 - o ≤ d → sok tk bg c (f_X7_readStatement N d) (q1 tk d) o
  | 0, o, ho, hd => by omega
  | d + 1, o, ho, hd => by
    intro y p k g hy hg hp
    have hc := ht.1
    have hk := hg.2.2
    have hS := hg.1
    have tok := c_token (N := N) (y := (ql_up y 2 (fun _ => ii k), p)) hc (cy_f hy rfl rfl) hk rfl
    have h25 := ht.2.2 k
    have e : ∀ t, t < 25 → (ii (tk k) = ii t ↔ tk k = t) := fun t h => ii_eq (by omega) (by omega)
    have lt : ∀ t, t ≠ 23 → tk k = t → k < c := fun t h1 h2 => by
      have hne : k ≠ c := fun x => by rw [x, ht.2.1] at h2; omega
      omega
    have bad : cok bg (f_X7_readStatement_200 N (f_X7_readStatement N d) (ql_up y 2 (fun _ => ii k), p)) y (false, k, g) := by
      unfold f_X7_readStatement_200
      exact c_rf2 hc hy hk hp.2.2.2.2
    show cok bg (f_X7_readStatement_0 N (f_X7_readStatement N d) (ql_up y 2 (fun _ => ii k), p) (ii o)) y _
    unfold f_X7_readStatement_0
    rw [tok, bd_s]
    have ifp : ∀ {α : Type} {P : Prop} {_ : Decidable P} {X Y : α}, P → (if P then X else Y) = X := fun h => if_pos h
    rw [q1]
    have part : ∀ t w, (t = 0 ∨ t = 1) → w < 16 → tk k = t → cok bg ((f_X6_add N p 0 (ii w) (-9)).bind fun u10 => (f_X7_take N (ql_up y 2 (fun _ => ii k), u10.2) (ii t)).bind fun u11 => if ql_bz u11.1 = true then some (u11.1, u11.2) else none) y (true, k + 1, ad g 0 w none) := fun t w h1 h2 h3 => by
      have hkc := lt t (by omega) h3
      obtain ⟨p1, e1, z1⟩ := c_add (N := N) (k := 0) (w := w) (j := none) hp (by omega)
      exact cok_t (sb e1 (sb ((c_tk2 (N := N) ht hy hk (by omega)).1 h3) (sp bz_1 rfl))) z1
    by_cases c0 : tk k = 0
    · rw [if_pos c0, if_pos (show ii (tk k) = (0 : Int32) from (e 0 (by omega)).mpr c0)]
      exact part 0 15 (by omega) (by omega) c0
    rw [if_neg c0, if_neg (show ¬ ii (tk k) = (0 : Int32) from fun x => c0 ((e 0 (by omega)).mp x))]
    by_cases c1 : tk k = 1
    · rw [if_pos c1, if_pos (show ii (tk k) = (1 : Int32) from (e 1 (by omega)).mpr c1)]
      exact part 1 0 (by omega) (by omega) c1
    rw [if_neg c1, if_neg (show ¬ ii (tk k) = (1 : Int32) from fun x => c1 ((e 1 (by omega)).mp x))]
    by_cases c2 : tk k = 2
    · rw [if_pos c2, if_pos (show ii (tk k) = (2 : Int32) from (e 2 (by omega)).mpr c2)]
      by_cases c8 : 8 ≤ o
      · rw [if_pos c8, if_pos (show (8 : Int32) ≤ ii o from le_y (a := 8) o c8 (by omega))]
        exact c_rf2 hc hy hk hp.2.2.2.2
      · rw [if_neg c8, if_neg (show ¬ (8 : Int32) ≤ ii o from le_n (a := 8) o (by omega) (by omega)), lk_1, ii_add]
        exact ql_bz_s (c_choice hN ht (by omega) (c_stat hN ht d (o + 1) (by omega) (by omega)) (fun k g hg => q1_rq ht d (o + 1) k g hg) hy hg (lt 2 (by omega) c2) hp)
    rw [if_neg c2, if_neg (show ¬ ii (tk k) = (2 : Int32) from fun x => c2 ((e 2 (by omega)).mp x))]
    by_cases c6 : tk k = 6
    · rw [if_pos c6, if_neg (show ¬ ii (tk k) = (3 : Int32) from fun x => by have := (e 3 (by omega)).mp x; omega), if_neg (show ¬ ii (tk k) = (4 : Int32) from fun x => by have := (e 4 (by omega)).mp x; omega), if_neg (show ¬ ii (tk k) = (5 : Int32) from fun x => by have := (e 5 (by omega)).mp x; omega), if_pos (show ii (tk k) = (6 : Int32) from (e 6 (by omega)).mpr c6)]
      by_cases c8 : 8 ≤ o
      · rw [if_pos c8, if_pos (show (8 : Int32) ≤ ii o from le_y (a := 8) o c8 (by omega))]
        exact c_rf2 hc hy hk hp.2.2.2.2
      · rw [if_neg c8, if_neg (show ¬ (8 : Int32) ≤ ii o from le_n (a := 8) o (by omega) (by omega)), lk_1, ii_add]
        exact ql_bz_s (c_loop hN ht (by omega) (c_stat hN ht d (o + 1) (by omega) (by omega)) (fun k g hg => q1_rq ht d (o + 1) k g hg) hy hg (lt 6 (by omega) c6) hp)
    rw [if_neg c6]
    by_cases c9 : tk k = 9
    · rw [if_pos c9, if_neg (show ¬ ii (tk k) = (3 : Int32) from fun x => by have := (e 3 (by omega)).mp x; omega), if_neg (show ¬ ii (tk k) = (4 : Int32) from fun x => by have := (e 4 (by omega)).mp x; omega), if_neg (show ¬ ii (tk k) = (5 : Int32) from fun x => by have := (e 5 (by omega)).mp x; omega), if_neg (show ¬ ii (tk k) = (6 : Int32) from fun x => c6 ((e 6 (by omega)).mp x)), if_neg (show ¬ ii (tk k) = (7 : Int32) from fun x => by have := (e 7 (by omega)).mp x; omega), if_neg (show ¬ ii (tk k) = (8 : Int32) from fun x => by have := (e 8 (by omega)).mp x; omega), if_pos (show ii (tk k) = (9 : Int32) from (e 9 (by omega)).mpr c9)]
      have hkc := lt 9 (by omega) c9
      have ct := c_test (N := N) (y := (y, p)) hN ht hy ho (show k + 1 ≤ c by omega)
      obtain ⟨t1, t2, t3, t4⟩ := pt_ro ht (o := o) (show k + 1 ≤ c by omega)
      refine ql_bz_s ?_
      unfold f_X7_readWant f_X7_readWant_0
      rw [st_up1]
      by_cases q : (pt tk o (k + 1)).1 = true
      · rw [if_pos q]
        rw [rs_t q] at ct
        obtain ⟨p1, e1, z1⟩ := c_add (N := N) (k := 4) (w := (pt tk o (k + 1)).2.1) (j := none) hp (by omega)
        exact cok_t (sb ct (sn (nm1 t1) (sb e1 rfl))) z1
      · rw [if_neg q]
        rw [rs_n q] at ct
        exact cok_f (sb ct (sp rfl rfl)) ⟨rfl, hp.2.2.2.2⟩
    rw [if_neg c9]
    by_cases c12 : tk k = 12 ∨ tk k = 13 ∨ tk k = 14
    · rw [if_pos c12]
      have hkc : k < c := by
        rcases c12 with h | h | h
        · exact lt 12 (by omega) h
        · exact lt 13 (by omega) h
        · exact lt 14 (by omega) h
      have e117 : cok bg (f_X7_readStatement_117 N (f_X7_readStatement N d) (ql_up y 2 (fun _ => ii k), p)) y (if cN g < 16 then (true, k + 1, pl g (tk k - 11)) else (false, k, g)) := by
        unfold f_X7_readStatement_117
        have ea : ii (tk k) - 12 + 1 = ii (tk k - 11) := by rw [lk_12, ii_sub (by omega), lk_1, ii_add]; congr 1; omega
        by_cases c16 : cN g < 16
        · rw [if_pos c16]
          obtain ⟨p1, e1, z1⟩ := c_addPlace (N := N) (a := tk k - 11) hp (by omega) c16
          have tok' := c_token (N := N) (y := (ql_up y 2 (fun _ => ii k), p1)) hc (cy_f hy rfl rfl) hk rfl
          refine cok_t (sb tok ?_) z1
          rw [ea]
          exact sb e1 (sn n10 (sb tok' (sb ((c_tk2 (N := N) ht hy hk (by omega)).1 rfl) (sp bz_1 rfl))))
        · rw [if_neg c16]
          refine cok_f (y' := (ql_up (ql_up y 2 (fun _ => ii k)) 3 (fun _ => ii (bg k)), p)) (sb tok (sb (c_noPlace hp c16 hg.2.1) (sp rfl (sb (c_refuse hc (cy_f hy rfl rfl) hk rfl) (sp bz_0 rfl))))) ⟨rfl, hp.2.2.2.2⟩
      rw [if_neg (show ¬ ii (tk k) = (3 : Int32) from fun x => by have := (e 3 (by omega)).mp x; omega), if_neg (show ¬ ii (tk k) = (4 : Int32) from fun x => by have := (e 4 (by omega)).mp x; omega), if_neg (show ¬ ii (tk k) = (5 : Int32) from fun x => by have := (e 5 (by omega)).mp x; omega), if_neg (show ¬ ii (tk k) = (6 : Int32) from fun x => c6 ((e 6 (by omega)).mp x)), if_neg (show ¬ ii (tk k) = (7 : Int32) from fun x => by have := (e 7 (by omega)).mp x; omega), if_neg (show ¬ ii (tk k) = (8 : Int32) from fun x => by have := (e 8 (by omega)).mp x; omega), if_neg (show ¬ ii (tk k) = (9 : Int32) from fun x => c9 ((e 9 (by omega)).mp x)), if_neg (show ¬ ii (tk k) = (10 : Int32) from fun x => by have := (e 10 (by omega)).mp x; omega), if_neg (show ¬ ii (tk k) = (11 : Int32) from fun x => by have := (e 11 (by omega)).mp x; omega)]
      by_cases d12 : ii (tk k) = (12 : Int32)
      · rw [if_pos d12]; exact e117
      · rw [if_neg d12]
        by_cases d13 : ii (tk k) = (13 : Int32)
        · rw [if_pos d13]; exact e117
        · rw [if_neg d13, if_pos (show ii (tk k) = (14 : Int32) from (e 14 (by omega)).mpr (by
            rcases c12 with h | h | h
            · exact absurd ((e 12 (by omega)).mpr h) d12
            · exact absurd ((e 13 (by omega)).mpr h) d13
            · exact h))]
          exact e117
    rw [if_neg c12]
    have all : ∀ X Y : Option (Int32 × ql_Y), True := fun _ _ => trivial
    by_cases d3 : ii (tk k) = (3 : Int32)
    · rw [if_pos d3]; exact bad
    rw [if_neg d3]
    by_cases d4 : ii (tk k) = (4 : Int32)
    · rw [if_pos d4]; exact bad
    rw [if_neg d4]
    by_cases d5 : ii (tk k) = (5 : Int32)
    · rw [if_pos d5]; exact bad
    rw [if_neg d5, if_neg (show ¬ ii (tk k) = (6 : Int32) from fun x => c6 ((e 6 (by omega)).mp x))]
    by_cases d7 : ii (tk k) = (7 : Int32)
    · rw [if_pos d7]; exact bad
    rw [if_neg d7]
    by_cases d8 : ii (tk k) = (8 : Int32)
    · rw [if_pos d8]; exact bad
    rw [if_neg d8, if_neg (show ¬ ii (tk k) = (9 : Int32) from fun x => c9 ((e 9 (by omega)).mp x))]
    by_cases d10 : ii (tk k) = (10 : Int32)
    · rw [if_pos d10]; exact bad
    rw [if_neg d10]
    by_cases d11 : ii (tk k) = (11 : Int32)
    · rw [if_pos d11]; exact bad
    rw [if_neg d11, if_neg (show ¬ ii (tk k) = (12 : Int32) from fun x => c12 (Or.inl ((e 12 (by omega)).mp x))), if_neg (show ¬ ii (tk k) = (13 : Int32) from fun x => c12 (Or.inr (Or.inl ((e 13 (by omega)).mp x)))), if_neg (show ¬ ii (tk k) = (14 : Int32) from fun x => c12 (Or.inr (Or.inr ((e 14 (by omega)).mp x))))]
    exact bad
end
