/-! the class's reading of statements -/
def cz (p : ql_St) (g : cT) : Prop := p 3 0 = ii (cS g) ∧ p 6 0 = ii (cN g) ∧ (∀ x, x < cS g → p 0 x = ii (cK g x) ∧ p 1 x = ii (cW g x) ∧ p 2 x = ec (cJ g x)) ∧ (∀ q, 1 ≤ q → q ≤ cN g → p 4 q = ii (cB g q) ∧ p 5 q = ii (cA g q)) ∧ p 4 0 = ii 0
section
variable {N c : Nat} {tk bg : Nat → Nat}
theorem c_add {p : ql_St} {g : cT} {k w : Nat} {j : Option Nat} (h : cz p g) (hS : cS g < 300) : ∃ p', f_X6_add N p (ii k) (ii w) (ec j) = some (ii (cS g), p') ∧ cz p' (ad g k w j) := by
  have e : (if (299 : Int32) < p 3 0 then (299 : Int32) else p 3 0) = ii (cS g) := by
    rw [h.1]
    exact sn (lt_n (a := 299) (cS g) (by omega) (by omega)) rfl
  refine ⟨ql_up (ql_up (ql_up (ql_up p 0 (upd (p 0) (cS g) (ii k))) 1 (upd (p 1) (cS g) (ii w))) 2 (upd (p 2) (cS g) (ec j))) 3 (fun _ => ii (cS g + 1)), ?_, rfl, h.2.1, fun x hx => ?_, h.2.2.2.1, h.2.2.2.2⟩
  · unfold f_X6_add f_X6_add_0
    rw [e, ii_nat (by omega), lk_1, ii_add]
    have ib : ql_ib (ii (cS g)) 300 = true := ii_ib (by omega) (by omega)
    exact sp ib (sp ib (sp ib rfl))
  · show upd (p 0) (cS g) (ii k) x = ii (un (cK g) (cS g) k x) ∧ upd (p 1) (cS g) (ii w) x = ii (un (cW g) (cS g) w x) ∧ upd (p 2) (cS g) (ec j) x = ec (un (cJ g) (cS g) j x)
    by_cases q : x = cS g
    · rw [q, ud_same, ud_same, ud_same, un_s, un_s, un_s]; exact ⟨rfl, rfl, rfl⟩
    · rw [ud_ne q, ud_ne q, ud_ne q, un_n q, un_n q, un_n q]
      have hx : x < cS g + 1 := hx
      exact h.2.2.1 x (by omega)
/-- where to, filled in later -/
theorem c_to {p : ql_St} {g : cT} {s : Nat} (h : cz p g) : cz (ql_up p 2 (upd (p 2) s (p 3 0))) (pj g s (cS g)) := by
  refine ⟨h.1, h.2.1, fun x hx => ?_, h.2.2.2.1, h.2.2.2.2⟩
  obtain ⟨a1, a2, a3⟩ := h.2.2.1 x hx
  refine ⟨a1, a2, ?_⟩
  show upd (p 2) s (p 3 0) x = ec (un (cJ g) s (some (cS g)) x)
  by_cases q : x = s
  · rw [q, ud_same, un_s]; exact h.1
  · rw [ud_ne q, un_n q]; exact a3
theorem c_addPlace {p : ql_St} {g : cT} {a : Nat} (h : cz p g) (hS : cS g < 300) (hn : cN g < 16) : ∃ p', f_X6_addPlace N p (ii a) = some (ii 1, p') ∧ cz p' (pl g a) := by
  have e : (if (299 : Int32) < p 3 0 then (299 : Int32) else p 3 0) = ii (cS g) := by
    rw [h.1]
    exact sn (lt_n (a := 299) (cS g) (by omega) (by omega)) rfl
  have ib : ql_ib (ii (cS g)) 300 = true := ii_ib (by omega) (by omega)
  have fa : f_X6_add N (ql_up p 6 (fun _ => ii (cN g + 1))) (ii 1) (ii 15) (ii (cN g + 1)) = some (ii (cS g), ql_up (ql_up (ql_up (ql_up (ql_up p 6 (fun _ => ii (cN g + 1))) 0 (upd (p 0) (cS g) (ii 1))) 1 (upd (p 1) (cS g) (ii 15))) 2 (upd (p 2) (cS g) (ii (cN g + 1)))) 3 (fun _ => ii (cS g + 1))) := by
    unfold f_X6_add f_X6_add_0
    have e' : (if (299 : Int32) < ql_up p 6 (fun _ => ii (cN g + 1)) 3 0 then (299 : Int32) else ql_up p 6 (fun _ => ii (cN g + 1)) 3 0) = ii (cS g) := e
    rw [e', ii_nat (by omega), lk_1, ii_add]
    exact sp ib (sp ib (sp ib rfl))
  refine ⟨ql_up (ql_up (ql_up (ql_up (ql_up (ql_up (ql_up p 6 (fun _ => ii (cN g + 1))) 0 (upd (p 0) (cS g) (ii 1))) 1 (upd (p 1) (cS g) (ii 15))) 2 (upd (p 2) (cS g) (ii (cN g + 1)))) 3 (fun _ => ii (cS g + 1))) 4 (upd (p 4) (cN g + 1) (ii (cS g + 1)))) 5 (upd (p 5) (cN g + 1) (ii a)), ?_, rfl, rfl, fun x hx => ?_, fun q q1 q2 => ?_, ?_⟩
  · unfold f_X6_addPlace f_X6_addPlace_0
    rw [h.2.1, lk_1, ii_add]
    refine sp (lt_y 16 hn (by omega)) (sb fa ?_)
    show (if ql_ib (ii (cN g + 1)) 17 = true then if ql_ib (ii (cN g + 1)) 17 = true then some ((1 : Int32), ql_up (ql_up (ql_up (ql_up (ql_up (ql_up (ql_up p 6 (fun _ => ii (cN g + 1))) 0 (upd (p 0) (cS g) (ii 1))) 1 (upd (p 1) (cS g) (ii 15))) 2 (upd (p 2) (cS g) (ii (cN g + 1)))) 3 (fun _ => ii (cS g + 1))) 4 (upd (p 4) (ii (cN g + 1)).toNatClampNeg (ii (cS g + 1)))) 5 (upd (p 5) (ii (cN g + 1)).toNatClampNeg (ii a))) else none else none) = _
    rw [ii_nat (by omega)]
    have ib17 : ql_ib (ii (cN g + 1)) 17 = true := ii_ib (by omega) (by omega)
    exact sp ib17 (sp ib17 rfl)
  · show upd (p 0) (cS g) (ii 1) x = ii (un (cK g) (cS g) 1 x) ∧ upd (p 1) (cS g) (ii 15) x = ii (un (cW g) (cS g) 15 x) ∧ upd (p 2) (cS g) (ii (cN g + 1)) x = ec (un (cJ g) (cS g) (some (cN g + 1)) x)
    by_cases q : x = cS g
    · rw [q, ud_same, ud_same, ud_same, un_s, un_s, un_s]; exact ⟨rfl, rfl, rfl⟩
    · rw [ud_ne q, ud_ne q, ud_ne q, un_n q, un_n q, un_n q]
      have hx : x < cS g + 1 := hx
      exact h.2.2.1 x (by omega)
  · have q2 : q ≤ cN g + 1 := q2
    show upd (p 4) (cN g + 1) (ii (cS g + 1)) q = ii (un (cB g) (cN g + 1) (cS g + 1) q) ∧ upd (p 5) (cN g + 1) (ii a) q = ii (un (cA g) (cN g + 1) a q)
    by_cases e : q = cN g + 1
    · rw [e, ud_same, ud_same, un_s, un_s]; exact ⟨rfl, rfl⟩
    · rw [ud_ne e, ud_ne e, un_n e, un_n e]; exact h.2.2.2.1 q q1 (by omega)
  · show upd (p 4) (cN g + 1) (ii (cS g + 1)) 0 = ii 0
    rw [ud_ne (by omega)]; exact h.2.2.2.2
theorem c_noPlace {p : ql_St} {g : cT} {a : Int32} (h : cz p g) (hn : ¬ cN g < 16) (h16 : cN g ≤ 16) : f_X6_addPlace N p a = some (ii 0, p) := by
  unfold f_X6_addPlace f_X6_addPlace_0
  rw [h.2.1]
  exact sn (lt_n 16 (by omega) (by omega)) rfl
def cok (bg : Nat → Nat) (F : Option (Int32 × ql_Y)) (y : ql_St) (r : cR) : Prop :=
  (r.1 = true → ∃ p', F = some (ii 1, (ql_up y 2 (fun _ => ii r.2.1), p')) ∧ cz p' r.2.2) ∧ (¬ r.1 = true → ∃ y', F = some (ii 0, y') ∧ y'.1 3 0 = ii (bg r.2.1) ∧ y'.2 4 0 = ii 0)
def sok (tk bg : Nat → Nat) (c : Nat) (r1 : ql_Y → Int32 → Option (Int32 × ql_Y)) (q : Nat → Nat → cT → cR) (o : Nat) : Prop :=
  ∀ y p k g, cy y tk bg c → gok c k g → cz p g → cok bg (r1 (ql_up y 2 (fun _ => ii k), p) (ii o)) y (q o k g)
theorem cok_t {F : Option (Int32 × ql_Y)} {y p' : ql_St} {k : Nat} {g : cT} (h : F = some (ii 1, (ql_up y 2 (fun _ => ii k), p'))) (hz : cz p' g) : cok bg F y (true, k, g) := ⟨fun _ => ⟨p', h, hz⟩, fun hx => absurd rfl hx⟩
theorem cok_f {F : Option (Int32 × ql_Y)} {y : ql_St} {y' : ql_Y} {k : Nat} {g : cT} (h : F = some (ii 0, y')) (hf : y'.1 3 0 = ii (bg k) ∧ y'.2 4 0 = ii 0) : cok bg F y (false, k, g) := ⟨fun hx => (by cases hx), fun _ => ⟨y', h, hf⟩⟩
theorem c_sts8 (hN : 1000 ≤ N) (ht : te_ok tk c) {r1 : ql_Y → Int32 → Option (Int32 × ql_Y)} {q : Nat → Nat → cT → cR} {o : Nat} (hr : sok tk bg c r1 q o) (hq : ∀ k g, gok c k g → rq c k g (q o k g)) {y : ql_St} (hy : cy y tk bg c) : ∀ f x m k g p, x + f = 300 → f + 2 ≤ m → gok c k g → cz p g → cok bg (f_X7_readStatements_8 N r1 m (ql_up y 2 (fun _ => ii k), p) (ii o) (ii 1) (ii x)) y (qL tk q o f k g) := by
  have hc := ht.1
  intro f
  induction f with
  | zero =>
    intro x m k g p hx hm hg hp
    obtain ⟨m, rfl⟩ : ∃ j, m = j + 1 := ⟨m - 1, by omega⟩
    refine cok_t ?_ hp
    rw [f_X7_readStatements_8]
    unfold f_X7_readStatements_50
    exact sp (le_y (a := 300) x (by omega) (by omega)) (sp bz_1 rfl)
  | succ f ih =>
    intro x m k g p hx hm hg hp
    obtain ⟨m, rfl⟩ : ∃ j, m = j + 1 := ⟨m - 1, by omega⟩
    have hk := hg.2.2
    have tok := c_token (N := N) (y := (ql_up y 2 (fun _ => ii k), p)) hc (cy_f hy rfl rfl) hk rfl
    have h25 := ht.2.2 k
    have t17 : ii (tk k) = ii 17 ↔ tk k = 17 := ii_eq (by omega) (by omega)
    have n300 : ¬ (300 : Int32) ≤ ii x := le_n (a := 300) x (by omega) (by omega)
    rw [f_X7_readStatements_8, qL]
    by_cases c1 : tk k = 17
    · rw [if_pos c1]
      have hne : k ≠ c := fun e => by rw [e, ht.2.1] at c1; omega
      have hg' : gok c (k + 1) g := ⟨by have := hg.1; omega, hg.2.1, by omega⟩
      obtain ⟨g1, g2⟩ := hr y p (k + 1) g hy hg' hp
      have pre : ∀ F, (∀ u5, r1 (ql_up y 2 (fun _ => ii (k + 1)), p) (ii o) = some u5 → f_X7_readStatements_8 N r1 m u5.2 (ii o) u5.1 (ii (x + 1)) = F) → (∃ u5, r1 (ql_up y 2 (fun _ => ii (k + 1)), p) (ii o) = some u5) → (if (300 : Int32) ≤ ii x then f_X7_readStatements_50 N r1 (ql_up y 2 (fun _ => ii k), p) (ii 1) else if ii 1 = 0 then f_X7_readStatements_50 N r1 (ql_up y 2 (fun _ => ii k), p) (ii 1) else (f_X7_token N (ql_up y 2 (fun _ => ii k), p)).bind fun u3 => if u3 = 17 then (r1 ((ql_up (ql_up y 2 (fun _ => ii k), p).1 2 (fun _ => (((ql_up y 2 (fun _ => ii k), p) : ql_Y).1 2 0 + 1))), (ql_up y 2 (fun _ => ii k), p).2) (ii o)).bind fun u5 => f_X7_readStatements_8 N r1 m u5.2 (ii o) u5.1 (ii x + 1) else f_X7_readStatements_50 N r1 (ql_up y 2 (fun _ => ii k), p) (ii 1)) = F := fun F hF ⟨u5, e5⟩ => by
        refine sn n300 (sn n10 (sb tok (sp (t17.mpr c1) ?_)))
        have est : ((ql_up (ql_up y 2 (fun _ => ii k), p).1 2 (fun _ => (((ql_up y 2 (fun _ => ii k), p) : ql_Y).1 2 0 + 1))), (ql_up y 2 (fun _ => ii k), p).2) = (ql_up y 2 (fun _ => ii (k + 1)), p) := by
          show (ql_up (ql_up y 2 (fun _ => ii k)) 2 (fun _ => ii k + 1), p) = _
          rw [up_up, lk_1, ii_add]
        rw [est]
        refine sb e5 ?_
        rw [lk_1, ii_add]
        exact hF u5 e5
      by_cases q' : (q o (k + 1) g).1 = true
      · rw [if_pos q']
        obtain ⟨p', e5, z5⟩ := g1 q'
        have hgk := ((hq (k + 1) g hg').2.2 q').2.1
        have := ih (x + 1) m _ _ p' (by omega) (by omega) hgk z5
        rw [pre _ (fun u5 hu => by rw [e5] at hu; rw [← Option.some.inj hu]) ⟨_, e5⟩]
        exact this
      · rw [if_neg q']
        obtain ⟨y', e5, z5⟩ := g2 q'
        refine cok_f (y' := y') ?_ z5
        refine pre _ (fun u5 hu => ?_) ⟨_, e5⟩
        rw [e5] at hu
        rw [← Option.some.inj hu]
        obtain ⟨m, rfl⟩ : ∃ j, m = j + 1 := ⟨m - 1, by omega⟩
        rw [f_X7_readStatements_8]
        unfold f_X7_readStatements_50
        by_cases c3 : (300 : Int32) ≤ ii (x + 1)
        · exact sp c3 (sp bz_0 rfl)
        · exact sn c3 (sp rfl (sp bz_0 rfl))
    · rw [if_neg c1]
      refine cok_t ?_ hp
      unfold f_X7_readStatements_50
      exact sn n300 (sn n10 (sb tok (sn (fun e => c1 (t17.mp e)) (sp bz_1 rfl))))
theorem c_sts (hN : 1000 ≤ N) (ht : te_ok tk c) {r1 : ql_Y → Int32 → Option (Int32 × ql_Y)} {q : Nat → Nat → cT → cR} {o : Nat} (hr : sok tk bg c r1 q o) (hq : ∀ k g, gok c k g → rq c k g (q o k g)) {y p : ql_St} {k : Nat} {g : cT} (hy : cy y tk bg c) (hg : gok c k g) (hp : cz p g) : cok bg (f_X7_readStatements N r1 (ql_up y 2 (fun _ => ii k), p) (ii o)) y (qs tk q o k g) := by
  unfold f_X7_readStatements f_X7_readStatements_0 qs
  obtain ⟨g1, g2⟩ := hr y p k g hy hg hp
  by_cases q' : (q o k g).1 = true
  · rw [if_pos q']
    obtain ⟨p', e5, z5⟩ := g1 q'
    have := c_sts8 (N := N) hN ht hr hq hy 300 0 N _ _ p' (by omega) (by omega) (((hq k g hg).2.2 q').2.1) z5
    rw [e5, bd_s]
    exact this
  · rw [if_neg q']
    obtain ⟨y', e5, z5⟩ := g2 q'
    refine cok_f (y' := y') ?_ z5
    refine sb e5 ?_
    obtain ⟨m, hm⟩ : ∃ j, N = j + 1 := ⟨N - 1, by omega⟩
    have en : f_X7_readStatements_8 N r1 N y' (ii o) (ii 0) 0 = f_X7_readStatements_8 N r1 (m + 1) y' (ii o) (ii 0) (ii 0) := by rw [← hm]; rfl
    show f_X7_readStatements_8 N r1 N y' (ii o) (ii 0) 0 = _
    rw [en, f_X7_readStatements_8]
    unfold f_X7_readStatements_50
    exact sn (le_n (a := 300) 0 (by omega) (by omega)) (sp rfl (sp bz_0 rfl))
end
