section
variable {N L c : Nat} {b tk bg nx : Nat → Nat}
theorem kp_at {g g1 : cT} {kd w : Nat} (h : kp (ad g kd w none) g1) : cS g < cS g1 ∧ cK g1 (cS g) = kd ∧ mm g1 (cS g) = mm g (cS g) := by
  refine ⟨h.1, ?_, ?_⟩
  · rw [(h.2.1 (cS g) (by show cS g < cS g + 1; omega)).1]
    exact un_s _ _ _
  · exact mm_c _ (fun y hy => ⟨((h.2.1 y (by show y < cS g + 1; omega)).1).trans (un_n (by omega)), ((h.2.1 y (by show y < cS g + 1; omega)).2.1).trans (un_n (by omega))⟩)
theorem opn_f {z z' : ql_Z} {o s f fl : Nat} {j : Int32} (h : opn z o s j fl) (hf : fn z z' f) (ho : o < f) : opn z' o s j fl := by
  obtain ⟨a1, a2, a3⟩ := hf.2.2.2.2.2.2.2 o ho
  exact ⟨a1.trans h.1, a2.trans h.2.1, a3.trans h.2.2⟩
theorem nz25 {z : ql_Z} {o : Nat} (ho : o < 100) (h : z.1 25 0 = ii (o + 1)) : ¬ z.1 25 0 = 0 := fun y => by
  rw [h] at y
  have := (ii_eq (a := o + 1) (b := 0) (by omega) (by omega)).mp y
  omega
theorem mm400 {k : Nat} {g : cT} (hk0 : te_ok tk c) (hg : gok c k g) : mm g (cS g) < 400 := by
  have := mm_le (g := g) (cS g)
  have := hg.1
  have := hg.2.2
  have := hk0.1
  omega
theorem m_qC (hN : 1000 ≤ N) (ht : ts b L tk bg nx c) (hk0 : te_ok tk c) {r1 : Nat → Nat → cT → cR} {o : Nat} (ho : o < 8) (h1 : ∀ k g, gok c k g → rq c k g (r1 (o + 1) k g)) (h2 : ∀ k g, gok c k g → kq k g (r1 (o + 1) k g)) (hm : m1s N L c b tk bg nx r1 (o + 1)) {z : ql_Z} {m k : Nat} {g : cT} (hp : pre L c b tk bg nx z k o g) (hu : 2 * ug g ≤ k) (hm1 : c + 1 ≤ m + k) (hk : k < c) (e : tk k = 2) : mgo N L b tk bg nx z m k o (qC tk r1 (o + 1) k g) (ii 1) := by
  have hc := hk0.1
  obtain ⟨p1, p2, p3, p4, p5⟩ := hp
  have hu' : us g (cS g) < 200 := by have : us g (cS g) = ug g := rfl; omega
  obtain ⟨og1, og2⟩ := m_owo hN ht hk0 p1 p2 p3 p4 p5 ho hu' hk (Or.inl ⟨e, rfl, rfl, rfl⟩)
  obtain ⟨t1, t2, t3, t4⟩ := pt_ro hk0 (o := o + 1) (show k + 1 ≤ c by omega)
  obtain ⟨m, rfl⟩ : ∃ j, m = j + 1 := ⟨m - 1, by omega⟩
  unfold qC
  by_cases q : (pt tk (o + 1) (k + 1)).1 = true
  · rw [if_pos q]
    have t4 := t4 q
    by_cases q3 : tk (pt tk (o + 1) (k + 1)).2.2 = 3
    · rw [if_pos q3]
      have hne : (pt tk (o + 1) (k + 1)).2.2 ≠ c := fun x => by rw [x, hk0.2.1] at q3; omega
      have hg1 : gok c ((pt tk (o + 1) (k + 1)).2.2 + 1) (ad g 2 (pt tk (o + 1) (k + 1)).2.1 none) := ⟨by show cS g + 1 ≤ _; have := p1.1; omega, p1.2.1, by omega⟩
      obtain ⟨z1, a1, a2, a3, a4, a5, a6, a7⟩ := og1 ⟨q, q3⟩
      have hr := qs_rq hk0 h1 hg1
      have hkq := qs_kq hk0 h1 h2 hg1
      have hse := qs_e hk0 h1 hg1
      have hu1 : ug (ad g 2 (pt tk (o + 1) (k + 1)).2.1 none) = ug g + 1 := ug_ad
      have g1 := m_qs hN ht hk0 h1 h2 hm (z := z1) (m := m) ⟨hg1, a2, a3, a4, a5⟩ (by rw [hu1]; omega) (by omega)
      have e1 := rd1o (N := N) (n := m) hk0 p2 (Or.inl e) a1
      refine mgo_t e1 (k1 := (pt tk (o + 1) (k + 1)).2.2 + 1) (by omega) a7 ?_
      generalize qs tk r1 (o + 1) ((pt tk (o + 1) (k + 1)).2.2 + 1) (ad g 2 (pt tk (o + 1) (k + 1)).2.1 none) = r at hr hkq hse g1
      obtain ⟨r1', r2', r3'⟩ := hr
      show mgo N L b tk bg nx z1 m _ o (if r.1 = true then _ else _) (ii 1)
      by_cases c1 : r.1 = true
      · rw [if_pos c1]
        obtain ⟨b1, b2, b3⟩ := r3' c1
        obtain ⟨k1, k2⟩ := hkq c1
        have hse := hse c1
        obtain ⟨s1, s2, s3⟩ := kp_at k1
        obtain ⟨z2, m2, d1, d2, d3, d4, d5, d6, d7⟩ := g1.1 c1
        have op2 := opn_f a6 d7 (by omega)
        have v1 := k2 (by rw [hu1]; omega)
        have hM := mm400 hk0 b2
        have hz2 := nz25 (by omega) d6
        have b2k := b2.2.2
        refine mgo_t d1 (k1 := r.2.1) d2 (fn_l d7 (by omega)) ?_
        obtain ⟨m2, rfl⟩ : ∃ j, m2 = j + 1 := ⟨m2 - 1, by omega⟩
        by_cases c4 : tk r.2.1 = 4
        · rw [if_pos c4]
          have hne2 : r.2.1 ≠ c := fun x => by rw [x, hk0.2.1] at c4; omega
          have hg2 : gok c (r.2.1 + 1) (pj (ad r.2.2 5 0 none) (cS g) (cS r.2.2 + 1)) := ⟨by show cS r.2.2 + 1 ≤ _; have := b2.1; omega, b2.2.1, by omega⟩
          rw [← s3] at op2
          obtain ⟨z3, f1, f2, f3, f4, f5, f6, f7⟩ := m_felse hN ht d3 d4 d6 ho hM (by omega) c4 s1 s2 op2
          have hr2 := qs_rq hk0 h1 hg2
          have hkq2 := qs_kq hk0 h1 h2 hg2
          have hse2 := qs_e hk0 h1 hg2
          have hu2 : ug (pj (ad r.2.2 5 0 none) (cS g) (cS r.2.2 + 1)) = ug r.2.2 := by rw [ug_pj, ug_ad]; rfl
          have g2 := m_qs hN ht hk0 h1 h2 hm (z := z3) (m := m2) ⟨hg2, f2, f3, f4.trans d5, f5⟩ (by rw [hu2]; omega) (by omega)
          have e2 := rd2 (N := N) (n := m2) hk0 d3 (fun _ => hz2) (Or.inl rfl) f1
          refine mgo_t e2 (k1 := r.2.1 + 1) (by omega) f7 ?_
          have j5 : cK (pj (ad r.2.2 5 0 none) (cS g) (cS r.2.2 + 1)) (cS r.2.2) = 5 := un_s _ _ _
          have jm : mm (pj (ad r.2.2 5 0 none) (cS g) (cS r.2.2 + 1)) (cS r.2.2) = mm r.2.2 (cS r.2.2) := mm_c _ (fun y hy => ⟨un_n (by omega), un_n (by omega)⟩)
          have jS : cS (pj (ad r.2.2 5 0 none) (cS g) (cS r.2.2 + 1)) = cS r.2.2 + 1 := rfl
          generalize pj (ad r.2.2 5 0 none) (cS g) (cS r.2.2 + 1) = G at *
          generalize qs tk r1 (o + 1) (r.2.1 + 1) G = r2 at hr2 hkq2 hse2 g2
          obtain ⟨w1, w2, w3⟩ := hr2
          show mgo N L b tk bg nx z3 m2 _ o (if r2.1 = true then _ else _) (ii 1)
          by_cases c2 : r2.1 = true
          · rw [if_pos c2]
            obtain ⟨x1, x2, x3⟩ := w3 c2
            obtain ⟨k3, k4⟩ := hkq2 c2
            have hse2 := hse2 c2
            obtain ⟨z4, m4, i1, i2, i3, i4, i5, i6, i7⟩ := g2.1 c2
            have op4 := opn_f f6 i7 (by omega)
            have hz4 := nz25 (by omega) i6
            have x2k := x2.2.2
            refine mgo_t i1 (k1 := r2.2.1) i2 (fn_l i7 (by omega)) ?_
            obtain ⟨m4, rfl⟩ : ∃ j, m4 = j + 1 := ⟨m4 - 1, by omega⟩
            have y5 : cK r2.2.2 (cS r.2.2) = 5 := by rw [(k3.2.1 _ (by omega)).1]; exact j5
            have ym : mm r2.2.2 (cS r.2.2) = mm r.2.2 (cS r.2.2) := by
              rw [← jm]
              exact mm_c _ (fun y hy => ⟨(k3.2.1 y (by omega)).1, (k3.2.1 y (by omega)).2.1⟩)
            by_cases c5 : tk r2.2.1 = 5
            · rw [if_pos c5]
              have hne3 : r2.2.1 ≠ c := fun x => by rw [x, hk0.2.1] at c5; omega
              obtain ⟨z5, l1, l2, l3, l4, l5, l6⟩ := m_ffi (s := cS r.2.2) hN ht i3 i4 i5 i6 ho (mm400 hk0 x2) (by omega) c5 (by have := k3.1; omega) (Or.inr y5) op4 (Or.inr (by rw [ym]))
              have e3 := rd2 (N := N) (n := m4) hk0 i3 (fun _ => hz4) (Or.inr rfl) l1
              exact ⟨fun _ => ⟨z5, m4, e3, by show m4 + 1 + r2.2.1 ≤ m4 + (r2.2.1 + 1); omega, l2, l3, l4, l5, l6⟩, fun x => absurd rfl x⟩
            · rw [if_neg c5]
              have no := m_fno (N := N) hk0 i3 i6 ho op4 (Or.inl rfl) hse2 (fun _ => Or.inr ⟨_, hM, rfl⟩) (fun _ => c5) (fun x => by omega)
              exact mgo_f (rd2f (N := N) (n := m4) hk0 i3 (fun _ => hz4) no) i3.2.2.2 (fn_r _ _)
          · rw [if_neg c2]
            obtain ⟨z4, i1, i2, i3⟩ := g2.2 c2
            exact mgo_f i1 i2 i3
        · rw [if_neg c4]
          by_cases c5 : tk r.2.1 = 5
          · rw [if_pos c5]
            have hne3 : r.2.1 ≠ c := fun x => by rw [x, hk0.2.1] at c5; omega
            obtain ⟨z5, l1, l2, l3, l4, l5, l6⟩ := m_ffi (s := cS g) hN ht d3 d4 d5 d6 ho hM (by omega) c5 s1 (Or.inl s2) op2 (Or.inl ⟨rfl, s3.symm⟩)
            have e3 := rd2 (N := N) (n := m2) hk0 d3 (fun _ => hz2) (Or.inr rfl) l1
            exact ⟨fun _ => ⟨z5, m2, e3, by show m2 + 1 + r.2.1 ≤ m2 + (r.2.1 + 1); omega, l2, l3, l4, l5, l6⟩, fun x => absurd rfl x⟩
          · rw [if_neg c5]
            have no := m_fno (N := N) hk0 d3 d6 ho op2 (Or.inl rfl) hse (fun x => absurd x c4) (fun _ => c5) (fun x => by omega)
            exact mgo_f (rd2f (N := N) (n := m2) hk0 d3 (fun _ => hz2) no) d3.2.2.2 (fn_r _ _)
      · rw [if_neg c1]
        obtain ⟨z2, d1, d2, d3⟩ := g1.2 c1
        exact mgo_f d1 d2 d3
    · rw [if_neg q3]
      obtain ⟨z1, a1, a2, a3⟩ := og2 (fun x => q3 x.2)
      exact mgo_f (rd1f (N := N) (n := m) a1) a2 (fn_l a3 (by omega))
  · rw [if_neg q]
    obtain ⟨z1, a1, a2, a3⟩ := og2 (fun x => q x.1)
    exact mgo_f (rd1f (N := N) (n := m) a1) a2 (fn_l a3 (by omega))
theorem m_qW (hN : 1000 ≤ N) (ht : ts b L tk bg nx c) (hk0 : te_ok tk c) {r1 : Nat → Nat → cT → cR} {o : Nat} (ho : o < 8) (h1 : ∀ k g, gok c k g → rq c k g (r1 (o + 1) k g)) (h2 : ∀ k g, gok c k g → kq k g (r1 (o + 1) k g)) (hm : m1s N L c b tk bg nx r1 (o + 1)) {z : ql_Z} {m k : Nat} {g : cT} (hp : pre L c b tk bg nx z k o g) (hu : 2 * ug g ≤ k) (hm1 : c + 1 ≤ m + k) (hk : k < c) (e : tk k = 6) : mgo N L b tk bg nx z m k o (qW tk r1 (o + 1) k g) (ii 1) := by
  have hc := hk0.1
  obtain ⟨p1, p2, p3, p4, p5⟩ := hp
  have hu' : us g (cS g) < 200 := by have : us g (cS g) = ug g := rfl; omega
  obtain ⟨og1, og2⟩ := m_owo hN ht hk0 p1 p2 p3 p4 p5 ho hu' hk (Or.inr ⟨e, rfl, rfl, rfl⟩)
  obtain ⟨t1, t2, t3, t4⟩ := pt_ro hk0 (o := o + 1) (show k + 1 ≤ c by omega)
  obtain ⟨m, rfl⟩ : ∃ j, m = j + 1 := ⟨m - 1, by omega⟩
  unfold qW
  by_cases q : (pt tk (o + 1) (k + 1)).1 = true
  · rw [if_pos q]
    have t4 := t4 q
    by_cases q3 : tk (pt tk (o + 1) (k + 1)).2.2 = 7
    · rw [if_pos q3]
      have hne : (pt tk (o + 1) (k + 1)).2.2 ≠ c := fun x => by rw [x, hk0.2.1] at q3; omega
      have hg1 : gok c ((pt tk (o + 1) (k + 1)).2.2 + 1) (ad g 3 (pt tk (o + 1) (k + 1)).2.1 none) := ⟨by show cS g + 1 ≤ _; have := p1.1; omega, p1.2.1, by omega⟩
      obtain ⟨z1, a1, a2, a3, a4, a5, a6, a7⟩ := og1 ⟨q, q3⟩
      have hr := qs_rq hk0 h1 hg1
      have hkq := qs_kq hk0 h1 h2 hg1
      have hse := qs_e hk0 h1 hg1
      have hu1 : ug (ad g 3 (pt tk (o + 1) (k + 1)).2.1 none) = ug g + 1 := ug_ad
      have g1 := m_qs hN ht hk0 h1 h2 hm (z := z1) (m := m) ⟨hg1, a2, a3, a4, a5⟩ (by rw [hu1]; omega) (by omega)
      have e1 := rd1o (N := N) (n := m) hk0 p2 (Or.inr e) a1
      refine mgo_t e1 (k1 := (pt tk (o + 1) (k + 1)).2.2 + 1) (by omega) a7 ?_
      generalize qs tk r1 (o + 1) ((pt tk (o + 1) (k + 1)).2.2 + 1) (ad g 3 (pt tk (o + 1) (k + 1)).2.1 none) = r at hr hkq hse g1
      obtain ⟨r1', r2', r3'⟩ := hr
      show mgo N L b tk bg nx z1 m _ o (if r.1 = true then _ else _) (ii 1)
      by_cases c1 : r.1 = true
      · rw [if_pos c1]
        obtain ⟨b1, b2, b3⟩ := r3' c1
        obtain ⟨k1, k2⟩ := hkq c1
        have hse := hse c1
        obtain ⟨s1, s2, s3⟩ := kp_at k1
        obtain ⟨z2, m2, d1, d2, d3, d4, d5, d6, d7⟩ := g1.1 c1
        have op2 := opn_f a6 d7 (by omega)
        have hM := mm400 hk0 b2
        have hz2 := nz25 (by omega) d6
        have b2k := b2.2.2
        refine mgo_t d1 (k1 := r.2.1) d2 (fn_l d7 (by omega)) ?_
        obtain ⟨m2, rfl⟩ : ∃ j, m2 = j + 1 := ⟨m2 - 1, by omega⟩
        by_cases c5 : tk r.2.1 = 8
        · rw [if_pos c5]
          have hne3 : r.2.1 ≠ c := fun x => by rw [x, hk0.2.1] at c5; omega
          rw [← s3] at op2
          obtain ⟨z5, l1, l2, l3, l4, l5, l6⟩ := m_fod (s := cS g) hN ht d3 d4 d5 d6 ho hM (by omega) c5 s1 s2 op2
          have e3 := rd2 (N := N) (n := m2) hk0 d3 (fun _ => hz2) (Or.inr rfl) l1
          exact ⟨fun _ => ⟨z5, m2, e3, by show m2 + 1 + r.2.1 ≤ m2 + (r.2.1 + 1); omega, l2, l3, l4, l5, l6⟩, fun x => absurd rfl x⟩
        · rw [if_neg c5]
          have no := m_fno (N := N) hk0 d3 d6 ho op2 (Or.inr rfl) hse (fun x => Or.inl rfl) (fun x => by omega) (fun _ => c5)
          exact mgo_f (rd2f (N := N) (n := m2) hk0 d3 (fun _ => hz2) no) d3.2.2.2 (fn_r _ _)
      · rw [if_neg c1]
        obtain ⟨z2, d1, d2, d3⟩ := g1.2 c1
        exact mgo_f d1 d2 d3
    · rw [if_neg q3]
      obtain ⟨z1, a1, a2, a3⟩ := og2 (fun x => q3 x.2)
      exact mgo_f (rd1f (N := N) (n := m) a1) a2 (fn_l a3 (by omega))
  · rw [if_neg q]
    obtain ⟨z1, a1, a2, a3⟩ := og2 (fun x => q x.1)
    exact mgo_f (rd1f (N := N) (n := m) a1) a2 (fn_l a3 (by omega))
/-- a statement that opens nothing -/
theorem m_simple {z : ql_Z} {m k o : Nat} {g : cT} {r : cR} (hk0 : te_ok tk c) (hp : pre L c b tk bg nx z k o g) (hm1 : c + 1 ≤ m + k) (n2 : tk k ≠ 2) (n6 : tk k ≠ 6) (hr : r.1 = true → k < r.2.1) (h : bgo N L b tk bg nx z r) : mgo N L b tk bg nx z m k o r (ii 1) := by
  obtain ⟨p1, p2, p3, p4, p5⟩ := hp
  have hkc := p1.2.2
  obtain ⟨m, rfl⟩ : ∃ j, m = j + 1 := ⟨m - 1, by omega⟩
  refine ⟨fun q => ?_, fun q => ?_⟩
  · obtain ⟨z1, a1, a2, a3, a4, a5, a6⟩ := h.1 q
    have := hr q
    exact ⟨z1, m, rd1s (N := N) (n := m) hk0 p2 n2 n6 a1, by omega, a2, a3, a4.trans p4, a5.trans p5, a6 o⟩
  · obtain ⟨z1, a1, a2, a3⟩ := h.2 q
    exact ⟨z1, rd1f (N := N) (n := m) a1, a2, a3 0⟩
/-- a statement -/
theorem m_q1 (hN : 1000 ≤ N) (ht : ts b L tk bg nx c) (hk0 : te_ok tk c) : ∀ d o, o ≤ 8 → 9 ≤ d + o → m1s N L c b tk bg nx (q1 tk d) o
  | 0, o, ho, hd => by omega
  | d + 1, o, ho, hd => by
    intro z m k g hp hu hm1
    have hc := hk0.1
    obtain ⟨p1, p2, p3, p4, p5⟩ := hp
    have hk := p1.2.2
    have hp : pre L c b tk bg nx z k o g := ⟨p1, p2, p3, p4, p5⟩
    have hu' : us g (cS g) < 200 := by have : us g (cS g) = ug g := rfl; omega
    have lt : ∀ t, t ≠ 23 → tk k = t → k < c := fun t h1 h2 => by
      have hne : k ≠ c := fun x => by rw [x, hk0.2.1] at h2; omega
      omega
    have hrq := q1_rq hk0 (d + 1) o k g p1
    have hlt : (q1 tk (d + 1) o k g).1 = true → k < (q1 tk (d + 1) o k g).2.1 := fun x => (hrq.2.2 x).1
    have op : ∀ t, (t = 2 ∨ t = 6) → tk k = t → 8 ≤ o → mgo N L b tk bg nx z m k o (false, k, g) (ii 1) := fun t h26 e h8 => by
      obtain rfl : o = 8 := by omega
      obtain ⟨m, rfl⟩ : ∃ j, m = j + 1 := ⟨m - 1, by omega⟩
      have t25 := hk0.2.2 k
      have ne : ∀ s, 2 ≤ s → s ≤ 24 → tk k ≠ s - 2 → ¬ ii (mt (tk k)) = ii s := fun s a1 a2 a3 y => a3 ((mt_eq t25 a1 a2).mp y)
      have yes : ∀ s, 2 ≤ s → s ≤ 24 → tk k = s - 2 → ii (mt (tk k)) = ii s := fun s a1 a2 a3 => (mt_eq t25 a1 a2).mpr a3
      have i3 : f_X11_in N (ii (mt (tk k))).toInt64 14 16 = some (ii 0) := by
        have := m_in3 (N := N) t25
        rw [if_neg (by omega)] at this; exact this
      have o11 : f_X11_opens_11 N z (ii (mt (tk k))) = some (0, z) := by
        unfold f_X11_opens_11
        exact sp (by rw [p4]; rfl) rfl
      have opn : f_X11_opens N z (ii (mt (tk k))) = some (0, z) := by
        unfold f_X11_opens f_X11_opens_0
        rcases h26 with c1 | c1
        · exact sp (yes 4 (by omega) (by omega) (by omega)) o11
        · exact sn (ne 4 (by omega) (by omega) (by omega)) (sp (yes 8 (by omega) (by omega) (by omega)) o11)
      have be : f_X11_begins N z = some (ii 0, z) := by
        unfold f_X11_begins f_X11_begins_0
        rw [p2.2.2.1]
        exact sn (ne 2 (by omega) (by omega) (by omega)) (sn (ne 3 (by omega) (by omega) (by omega)) (sb i3 (sp rfl (sn (ne 11 (by omega) (by omega) (by omega)) (sb opn (sp rfl rfl))))))
      exact mgo_f (rd1f (N := N) (n := m) be) p2.2.2.2 (fn_r _ _)
    by_cases c2 : tk k = 2
    · rw [q1, if_neg (by omega), if_neg (by omega), if_pos c2]
      by_cases c8 : 8 ≤ o
      · rw [if_pos c8]; exact op 2 (Or.inl rfl) c2 c8
      · rw [if_neg c8]
        exact m_qC hN ht hk0 (by omega) (fun k g hg => q1_rq hk0 d (o + 1) k g hg) (fun k g hg => q1_kq hk0 d (o + 1) k g hg) (m_q1 hN ht hk0 d (o + 1) (by omega) (by omega)) hp hu hm1 (lt 2 (by omega) c2) c2
    by_cases c6 : tk k = 6
    · rw [q1, if_neg (by omega), if_neg (by omega), if_neg c2, if_pos c6]
      by_cases c8 : 8 ≤ o
      · rw [if_pos c8]; exact op 6 (Or.inr rfl) c6 c8
      · rw [if_neg c8]
        exact m_qW hN ht hk0 (by omega) (fun k g hg => q1_rq hk0 d (o + 1) k g hg) (fun k g hg => q1_kq hk0 d (o + 1) k g hg) (m_q1 hN ht hk0 d (o + 1) (by omega) (by omega)) hp hu hm1 (lt 6 (by omega) c6) c6
    refine m_simple hk0 hp hm1 c2 c6 hlt ?_
    by_cases c0 : tk k = 0 ∨ tk k = 1
    · exact m_b01 hN ht hk0 p1 p2 p3 hu' (by rcases c0 with x | x; exact lt 0 (by omega) x; exact lt 1 (by omega) x) c0
    by_cases c9 : tk k = 9
    · exact m_b9 hN ht hk0 p1 p2 p3 p4 ho hu' (lt 9 (by omega) c9) c9
    by_cases c12 : tk k = 12 ∨ tk k = 13 ∨ tk k = 14
    · exact m_ba hN ht hk0 p1 p2 p3 hu' (by rcases c12 with x | x | x; exact lt 12 (by omega) x; exact lt 13 (by omega) x; exact lt 14 (by omega) x) c12
    · exact m_bno hk0 p2 (by omega) (by omega) c2 c6 c9 c12
end
