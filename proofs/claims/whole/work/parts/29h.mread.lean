/-! the reference's loop over statements -/
section
variable {N L c : Nat} {b tk bg nx : Nat → Nat}
theorem mt_0 {t : Nat} (h : ii (mt t) = (0 : Int32)) (ht : t < 25) : t = 23 := by
  have h' := (ii_eq (a := mt t) (b := 0) (by have := mt_lt ht; omega) (by omega)).mp h
  unfold mt at h'
  by_cases a : t = 23
  · exact a
  · rw [if_neg a] at h'
    by_cases b : t = 24
    · rw [if_pos b] at h'; omega
    · rw [if_neg b] at h'; omega
theorem rd1s {z z' : ql_Z} {n k : Nat} (hk0 : te_ok tk c) (h : mk b L tk bg nx z k) (n2 : tk k ≠ 2) (n6 : tk k ≠ 6) (hb : f_X11_begins N z = some (ii 1, z')) : f_X11_reads_42 N (n + 1) z (ii 1) = f_X11_reads_42 N n z' (ii 2) := by
  have ne : ∀ s, 2 ≤ s → s ≤ 24 → tk k ≠ s - 2 → ¬ ii (mt (tk k)) = ii s := fun s a1 a2 a3 y => a3 ((mt_eq (hk0.2.2 k) a1 a2).mp y)
  rw [f_X11_reads_42, h.2.2.1]
  refine sp rfl (sn (ne 4 (by omega) (by omega) n2) (sn (ne 8 (by omega) (by omega) n6) ?_))
  unfold f_X11_reads_69
  refine sb hb (sn (show ¬ ii 1 = (0 : Int32) by decide) (sp rfl ?_))
  rfl
theorem rd1o {z z' : ql_Z} {n k : Nat} (hk0 : te_ok tk c) (h : mk b L tk bg nx z k) (h26 : tk k = 2 ∨ tk k = 6) (hb : f_X11_begins N z = some (ii 1, z')) : f_X11_reads_42 N (n + 1) z (ii 1) = f_X11_reads_42 N n z' (ii 1) := by
  have fin : f_X11_reads_64 N (f_X11_reads_42 N n) z = f_X11_reads_42 N n z' (ii 1) := by
    unfold f_X11_reads_64 f_X11_reads_69
    refine sb hb (sn (show ¬ ii 1 = (0 : Int32) by decide) (sn (show ¬ (1 : Int32) = 0 by decide) ?_))
    rfl
  rw [f_X11_reads_42, h.2.2.1]
  refine sp rfl ?_
  rcases h26 with e | e
  · rw [e]; exact sp rfl fin
  · rw [e]; exact sn (show ¬ ii (mt 6) = (4 : Int32) by decide) (sp rfl fin)
theorem rd1f {z z' : ql_Z} {n : Nat} (hb : f_X11_begins N z = some (ii 0, z')) : f_X11_reads_42 N (n + 1) z (ii 1) = some (ii 0, z') := by
  have fin : ∀ y, f_X11_reads_69 N (f_X11_reads_42 N n) z y = some (ii 0, z') := fun y => by
    unfold f_X11_reads_69
    exact sb hb (sp rfl rfl)
  rw [f_X11_reads_42]
  refine sp rfl ?_
  by_cases q : z.1 15 0 = 4
  · exact sp q (fin 1)
  · refine sn q ?_
    by_cases q : z.1 15 0 = 8
    · exact sp q (fin 1)
    · exact sn q (fin 0)
theorem rd2 {z z' : ql_Z} {n k x : Nat} (hk0 : te_ok tk c) (h : mk b L tk bg nx z k) (hne : tk k = 23 → ¬ z.1 25 0 = 0) (hx : x = 1 ∨ x = 2) (hf : f_X11_follows N z = some (ii x, z')) : f_X11_reads_42 N (n + 1) z (ii 2) = f_X11_reads_42 N n z' (ii x) := by
  have fin : f_X11_reads_116 N (f_X11_reads_42 N n) z = f_X11_reads_42 N n z' (ii x) := by
    unfold f_X11_reads_116
    refine sb hf (sn ?_ rfl)
    rcases hx with e | e
    · rw [e]; exact (show ¬ ii 1 = (0 : Int32) by decide)
    · rw [e]; exact (show ¬ ii 2 = (0 : Int32) by decide)
  rw [f_X11_reads_42]
  refine sn (show ¬ ii 2 = (1 : Int32) by decide) ?_
  by_cases q : z.1 15 0 = 0
  · refine sp q (sn (hne ?_) fin)
    rw [h.2.2.1] at q
    exact mt_0 q (hk0.2.2 k)
  · exact sn q fin
theorem rd2f {z z' : ql_Z} {n k : Nat} (hk0 : te_ok tk c) (h : mk b L tk bg nx z k) (hne : tk k = 23 → ¬ z.1 25 0 = 0) (hf : f_X11_follows N z = some (0, z')) : f_X11_reads_42 N (n + 1) z (ii 2) = some (ii 0, z') := by
  have fin : f_X11_reads_116 N (f_X11_reads_42 N n) z = some (ii 0, z') := by
    unfold f_X11_reads_116
    exact sb hf (sp rfl rfl)
  rw [f_X11_reads_42]
  refine sn (show ¬ ii 2 = (1 : Int32) by decide) ?_
  by_cases q : z.1 15 0 = 0
  · refine sp q (sn (hne ?_) fin)
    rw [h.2.2.1] at q
    exact mt_0 q (hk0.2.2 k)
  · exact sn q fin
def mgo (N L : Nat) (b tk bg nx : Nat → Nat) (z : ql_Z) (m k o : Nat) (r : cR) (x : Int32) : Prop :=
  (r.1 = true → ∃ z' m', f_X11_reads_42 N m z x = f_X11_reads_42 N m' z' (ii 2) ∧ m + k ≤ m' + r.2.1 ∧ mk b L tk bg nx z' r.2.1 ∧ mz z'.1 r.2.2 ∧ z'.1 21 0 = ii o ∧ z'.1 25 0 = ii o ∧ fn z z' o) ∧
  (¬ r.1 = true → ∃ z', f_X11_reads_42 N m z x = some (ii 0, z') ∧ z'.1 16 0 = ii (bg r.2.1) ∧ fn z z' 0)
theorem mgo_t {z z1 : ql_Z} {m m1 k k1 o : Nat} {r : cR} {x x1 : Int32} (e : f_X11_reads_42 N m z x = f_X11_reads_42 N m1 z1 x1) (hm : m + k ≤ m1 + k1) (f : fn z z1 o) (h : mgo N L b tk bg nx z1 m1 k1 o r x1) : mgo N L b tk bg nx z m k o r x := by
  refine ⟨fun hr => ?_, fun hr => ?_⟩
  · obtain ⟨z', m', a1, a2, a3, a4, a5, a6, a7⟩ := h.1 hr
    exact ⟨z', m', e.trans a1, by omega, a3, a4, a5, a6, fn_t f a7 (Nat.le_refl _)⟩
  · obtain ⟨z', a1, a2, a3⟩ := h.2 hr
    exact ⟨z', e.trans a1, a2, fn_t (fn_l f (Nat.zero_le _)) a3 (Nat.le_refl _)⟩
/-- it fails -/
theorem mgo_f {z z1 : ql_Z} {m k o kf : Nat} {g : cT} {x : Int32} (e : f_X11_reads_42 N m z x = some (ii 0, z1)) (h16 : z1.1 16 0 = ii (bg kf)) (f : fn z z1 0) : mgo N L b tk bg nx z m k o (false, kf, g) x :=
  ⟨(fun hx => by cases hx), fun _ => ⟨z1, e, h16, f⟩⟩
def pre (L c : Nat) (b tk bg nx : Nat → Nat) (z : ql_Z) (k o : Nat) (g : cT) : Prop := gok c k g ∧ mk b L tk bg nx z k ∧ mz z.1 g ∧ z.1 21 0 = ii o ∧ z.1 25 0 = ii o
def m1s (N L c : Nat) (b tk bg nx : Nat → Nat) (r1 : Nat → Nat → cT → cR) (o : Nat) : Prop :=
  ∀ z m k g, pre L c b tk bg nx z k o g → 2 * ug g ≤ k → c + 1 ≤ m + k → mgo N L b tk bg nx z m k o (r1 o k g) (ii 1)
theorem qL_e (ht : te_ok tk c) {r1 : Nat → Nat → cT → cR} {o : Nat} (h1 : ∀ k g, gok c k g → rq c k g (r1 o k g)) : ∀ f k g, gok c k g → 301 ≤ f + k → (qL tk r1 o f k g).1 = true → tk (qL tk r1 o f k g).2.1 ≠ 17 := by
  have hc := ht.1
  intro f
  induction f with
  | zero => intro k g hg hf; have := hg.2.2; omega
  | succ f ih =>
    intro k g hg hf
    rw [qL]
    by_cases c1 : tk k = 17
    · rw [if_pos c1]
      have hne : k ≠ c := fun x => by rw [x, ht.2.1] at c1; omega
      obtain ⟨a1, a2, a3⟩ := h1 (k + 1) g ⟨by have := hg.1; omega, hg.2.1, by have := hg.2.2; omega⟩
      by_cases q : (r1 o (k + 1) g).1 = true
      · rw [if_pos q]
        exact ih _ _ (a3 q).2.1 (by omega)
      · rw [if_neg q]
        intro hx; cases hx
    · rw [if_neg c1]
      intro _; exact c1
theorem qs_e (ht : te_ok tk c) {r1 : Nat → Nat → cT → cR} {o : Nat} (h1 : ∀ k g, gok c k g → rq c k g (r1 o k g)) {k : Nat} {g : cT} (hg : gok c k g) : (qs tk r1 o k g).1 = true → tk (qs tk r1 o k g).2.1 ≠ 17 := by
  unfold qs
  obtain ⟨a1, a2, a3⟩ := h1 k g hg
  by_cases q : (r1 o k g).1 = true
  · rw [if_pos q]
    exact qL_e ht h1 300 _ _ (a3 q).2.1 (by have := (a3 q).1; omega)
  · rw [if_neg q]
    intro hx; cases hx
theorem m_qL (hN : 1000 ≤ N) (ht : ts b L tk bg nx c) (hk0 : te_ok tk c) {r1 : Nat → Nat → cT → cR} {o : Nat} (h1 : ∀ k g, gok c k g → rq c k g (r1 o k g)) (h2 : ∀ k g, gok c k g → kq k g (r1 o k g)) (hm : m1s N L c b tk bg nx r1 o) :
    ∀ f z m k g, pre L c b tk bg nx z k o g → 2 * ug g ≤ k + 1 → c + 1 ≤ m + k → 301 ≤ f + k → mgo N L b tk bg nx z m k o (qL tk r1 o f k g) (ii 2) := by
  have hc := hk0.1
  intro f
  induction f with
  | zero => intro z m k g hp hu hm1 hf; have := hp.1.2.2; omega
  | succ f ih =>
    intro z m k g hp hu hm1 hf
    obtain ⟨p1, p2, p3, p4, p5⟩ := hp
    have hkc := p1.2.2
    rw [qL]
    by_cases c1 : tk k = 17
    · rw [if_pos c1]
      have hne : k ≠ c := fun x => by rw [x, hk0.2.1] at c1; omega
      obtain ⟨m, rfl⟩ : ∃ j, m = j + 1 := ⟨m - 1, by omega⟩
      obtain ⟨z1, a1, a2, a3⟩ := m_fsemi hN ht p2 (by omega) c1
      have hg' : gok c (k + 1) g := ⟨by have := p1.1; omega, p1.2.1, by omega⟩
      have e1 := rd2 (N := N) (n := m) hk0 p2 (fun x => by omega) (Or.inl rfl) a1
      have pr : pre L c b tk bg nx z1 (k + 1) o g := ⟨hg', a2, mz_f p3 (fun s _ _ => a3.1 s (by omega) (by omega) (by omega)), by rw [a3.1 21 (by decide) (by decide) (by decide)]; exact p4, by rw [a3.1 25 (by decide) (by decide) (by decide)]; exact p5⟩
      have g1 := hm z1 m (k + 1) g pr hu (by omega)
      obtain ⟨b1, b2, b3⟩ := h1 (k + 1) g hg'
      have b4 := h2 (k + 1) g hg'
      refine mgo_t e1 (k1 := k + 1) (by omega) (fs_n a3 o) ?_
      by_cases q : (r1 o (k + 1) g).1 = true
      · rw [if_pos q]
        obtain ⟨z2, m2, d1, d2, d3, d4, d5, d6, d7⟩ := g1.1 q
        exact mgo_t d1 (k1 := (r1 o (k + 1) g).2.1) (by omega) d7 (ih z2 m2 _ _ ⟨(b3 q).2.1, d3, d4, d5, d6⟩ ((b4 q).2 hu) (by omega) (by omega))
      · rw [if_neg q]
        obtain ⟨z2, d1, d2, d3⟩ := g1.2 q
        exact mgo_f d1 d2 d3
    · rw [if_neg c1]
      exact ⟨fun _ => ⟨z, m, rfl, Nat.le_refl _, p2, p3, p4, p5, fn_r z o⟩, fun x => absurd rfl x⟩
theorem m_qs (hN : 1000 ≤ N) (ht : ts b L tk bg nx c) (hk0 : te_ok tk c) {r1 : Nat → Nat → cT → cR} {o : Nat} (h1 : ∀ k g, gok c k g → rq c k g (r1 o k g)) (h2 : ∀ k g, gok c k g → kq k g (r1 o k g)) (hm : m1s N L c b tk bg nx r1 o) {z : ql_Z} {m k : Nat} {g : cT} (hp : pre L c b tk bg nx z k o g) (hu : 2 * ug g ≤ k) (hm1 : c + 1 ≤ m + k) : mgo N L b tk bg nx z m k o (qs tk r1 o k g) (ii 1) := by
  unfold qs
  have g1 := hm z m k g hp hu hm1
  obtain ⟨b1, b2, b3⟩ := h1 k g hp.1
  have b4 := h2 k g hp.1
  by_cases q : (r1 o k g).1 = true
  · rw [if_pos q]
    obtain ⟨z2, m2, d1, d2, d3, d4, d5, d6, d7⟩ := g1.1 q
    exact mgo_t d1 (k1 := (r1 o k g).2.1) (by omega) d7 (m_qL hN ht hk0 h1 h2 hm 300 z2 m2 _ _ ⟨(b3 q).2.1, d3, d4, d5, d6⟩ ((b4 q).2 hu) (by omega) (by have := (b3 q).1; omega))
  · rw [if_neg q]
    obtain ⟨z2, d1, d2, d3⟩ := g1.2 q
    exact mgo_f d1 d2 d3
end
