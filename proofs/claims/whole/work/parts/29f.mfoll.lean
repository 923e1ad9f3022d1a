theorem up_in {S : ql_St} {k j s : Nat} {f f' : Nat → Int32} (h : s ≠ k) : ql_up (ql_up S k f) j f' s = ql_up S j f' s := by
  by_cases e : s = j
  · rw [e, up_same, up_same]
  · rw [up_ne e, up_ne e, up_ne h]
section
variable {N L c : Nat} {b tk bg nx : Nat → Nat}
theorem m_fsemi (hN : 1000 ≤ N) (ht : ts b L tk bg nx c) {z : ql_Z} {k : Nat} (h : mk b L tk bg nx z k) (hk : k < c) (e : tk k = 17) : ∃ z', f_X11_follows N z = some (ii 1, z') ∧ mk b L tk bg nx z' (k + 1) ∧ fs z z' := by
  obtain ⟨z', a1, a2, a3⟩ := mk_s hN ht h rfl rfl rfl hk
  refine ⟨z', ?_, a3, a2⟩
  unfold f_X11_follows f_X11_follows_0
  rw [h.2.2.1, e]
  exact sp rfl (sb a1 rfl)
/-- else -/
theorem m_felse (hN : 1000 ≤ N) (ht : ts b L tk bg nx c) {z : ql_Z} {k o s : Nat} {g : cT} (h : mk b L tk bg nx z k) (hz : mz z.1 g) (h25 : z.1 25 0 = ii (o + 1)) (ho : o < 8) (hM : mm g (cS g) < 400) (hk : k < c) (e : tk k = 4) (hs : s < cS g) (hK : cK g s = 2) (hf : opn z o (mm g s) (-ii 1) 0) :
    ∃ z', f_X11_follows N z = some (ii 1, z') ∧ mk b L tk bg nx z' (k + 1) ∧ mz z'.1 (pj (ad g 5 0 none) s (cS g + 1)) ∧ z'.1 21 0 = z.1 21 0 ∧ z'.1 25 0 = ii (o + 1) ∧ opn z' o (mm g s) (ii (mm g (cS g))) 0 ∧ fn z z' o := by
  obtain ⟨f1, f2, f3⟩ := hf
  have m1 : mm g s < mm g (cS g) := mm_lt (by omega) hs
  have pu : f_X11_puts N z 2 0 0 = some (ii (mm g (cS g)), zp z (mm g (cS g)) (ii 2) (ii 0) (ii 0)) := m_puts hz.1 hM
  let za : ql_Z := (ql_up (zp z (mm g (cS g)) (ii 2) (ii 0) (ii 0)).1 23 (upd (z.1 23) o (ii (mm g (cS g)))), z.2)
  have e6 : za.1 6 4 = ii (mm g (cS g) + 1) := by
    show upd (z.1 6) 4 (ii (mm g (cS g) + 1)) 4 = _
    rw [ud_same]
  have la := m_lands (N := N) e6 (show mm g s < 400 by omega)
  let zb : ql_Z := (ql_up za.1 5 (upd (za.1 5) (1600 + mm g s) (ii (mm g (cS g) + 1))), za.2)
  obtain ⟨z', a1, a2, a3⟩ := mk_s hN ht (z1 := zb) h rfl rfl rfl hk
  have mA := mz_leap (t := ii 0) (j := none) hz (fun x e => by cases e)
  have eKs : cK (ad g 5 0 none) s = 2 := (un_n (by omega)).trans hK
  have mB := mz_pj mA (s := s) (show s < cS g + 1 by omega) (Or.inl eKs)
  have q1 : mm (ad g 5 0 none) s = mm g s := mm_c _ (fun y hy => ⟨un_n (by omega), un_n (by omega)⟩)
  have q2 : mm (ad g 5 0 none) (cS (ad g 5 0 none)) = mm g (cS g) + 1 := by
    show mm (ad g 5 0 none) (cS g + 1) = _
    have eK : cK (ad g 5 0 none) (cS g) = 5 := un_s _ _ _
    rw [mm_s (g := ad g 5 0 none) (by rw [eK]; omega), mm_c (g := g) (cS g) (fun y hy => ⟨un_n (by omega), un_n (by omega)⟩)]
  rw [q1, q2] at mB
  have i0 : z.1 25 0 - 1 = ii o := by rw [h25, lk_1, ii_sub (by omega), show o + 1 - 1 = o by omega]
  have ib : ql_ib (ii o) 9 = true := ii_ib (by omega) (by omega)
  have lo : ¬ ii o < (0 : Int32) := fun y => by
    have := (ii_lt (a := o) (b := 0) (by omega) (by omega)).mp y
    omega
  refine ⟨z', ?_, a3, mz_f mB (fun x _ _ => (a2.1 x (by omega) (by omega) (by omega)).trans (up_in (by omega))), ?_, ?_, ⟨?_, ?_, ?_⟩, ?_⟩
  · unfold f_X11_follows f_X11_follows_0
    rw [i0, h.2.2.1, e, ii_nat (by omega)]
    refine sn (show ¬ ii (mt 4) = (19 : Int32) by decide) (sp rfl (sn lo (sp ib (sp (by rw [f3]; rfl) (sp ib (sn ?_ (sb pu (sp ib (sp ib (sb (a := zb) ?_ (sb a1 rfl)))))))))))
    · rw [f2]; decide
    · refine Eq.trans ?_ la
      rw [show (zp z (mm g (cS g)) (ii 2) (ii 0) (ii 0)).1 22 o = ii (mm g s) from f1]; rfl
  · rw [a2.1 21 (by decide) (by decide) (by decide)]; rfl
  · rw [a2.1 25 (by decide) (by decide) (by decide)]; exact h25
  · rw [a2.1 22 (by decide) (by decide) (by decide)]; exact f1
  · rw [a2.1 23 (by decide) (by decide) (by decide)]
    show upd (z.1 23) o (ii (mm g (cS g))) o = _
    rw [ud_same]
  · rw [a2.1 24 (by decide) (by decide) (by decide)]; exact f3
  · refine fn_t (z' := zb) (f' := o) ⟨rfl, rfl, rfl, fun _ _ => rfl, fun _ _ => ⟨rfl, rfl⟩, fun _ _ => ⟨rfl, rfl⟩, rfl, fun q hq => ⟨rfl, ?_, rfl⟩⟩ (fs_n a2 o) (Nat.le_refl _)
    show upd (z.1 23) o (ii (mm g (cS g))) q = _
    rw [ud_ne (by omega)]
/-- what is left when a word is closed -/
def clo (N L : Nat) (b tk bg nx : Nat → Nat) (z : ql_Z) (k o : Nat) (g : cT) : Prop :=
  ∃ z', f_X11_follows N z = some (ii 2, z') ∧ mk b L tk bg nx z' (k + 1) ∧ mz z'.1 g ∧ z'.1 21 0 = ii o ∧ z'.1 25 0 = ii o ∧ fn z z' o
theorem m_184 (hN : 1000 ≤ N) (ht : ts b L tk bg nx c) {z : ql_Z} {k o : Nat} {g : cT} (h : mk b L tk bg nx z k) (hz : mz z.1 g) (h21 : z.1 21 0 = ii (o + 1)) (h25 : z.1 25 0 = ii (o + 1)) (hk : k < c) :
    ∃ z', f_X11_follows_184 N z = some (ii 2, z') ∧ mk b L tk bg nx z' (k + 1) ∧ mz z'.1 g ∧ z'.1 21 0 = ii o ∧ z'.1 25 0 = ii o ∧ fn z z' o := by
  let za : ql_Z := (ql_up (ql_up z.1 21 (fun _ => ii o)) 25 (fun _ => ii o), z.2)
  obtain ⟨z', a1, a2, a3⟩ := mk_s hN ht (z1 := za) h rfl rfl rfl hk
  have i1 : z.1 21 0 - 1 = ii o := by rw [h21, lk_1, ii_sub (by omega), show o + 1 - 1 = o by omega]
  have i2 : z.1 25 0 - 1 = ii o := by rw [h25, lk_1, ii_sub (by omega), show o + 1 - 1 = o by omega]
  refine ⟨z', ?_, a3, mz_f hz (fun x _ _ => (a2.1 x (by omega) (by omega) (by omega)).trans ((up_ne (by omega)).trans (up_ne (by omega)))), ?_, ?_, fn_t (z' := za) (f' := o) ⟨rfl, rfl, rfl, fun _ _ => rfl, fun _ _ => ⟨rfl, rfl⟩, fun _ _ => ⟨rfl, rfl⟩, rfl, fun q hq => ⟨rfl, rfl, rfl⟩⟩ (fs_n a2 o) (Nat.le_refl _)⟩
  · unfold f_X11_follows_184
    rw [i1, i2]
    exact sb a1 rfl
  · rw [a2.1 21 (by decide) (by decide) (by decide)]; rfl
  · rw [a2.1 25 (by decide) (by decide) (by decide)]; rfl
/-- fi -/
theorem m_ffi (hN : 1000 ≤ N) (ht : ts b L tk bg nx c) {z : ql_Z} {k o s x : Nat} {g : cT} {j : Int32} (h : mk b L tk bg nx z k) (hz : mz z.1 g) (h21 : z.1 21 0 = ii (o + 1)) (h25 : z.1 25 0 = ii (o + 1)) (ho : o < 8) (hM : mm g (cS g) < 400) (hk : k < c) (e : tk k = 5) (hs : s < cS g) (hK : cK g s = 2 ∨ cK g s = 5) (hf : opn z o x j 0) (hj : (j = -ii 1 ∧ x = mm g s) ∨ j = ii (mm g s)) :
    clo N L b tk bg nx z k o (pj g s (cS g)) := by
  obtain ⟨f1, f2, f3⟩ := hf
  have m1 : mm g s < mm g (cS g) := mm_lt (by omega) hs
  have la := m_lands (N := N) hz.1 (show mm g s < 400 by omega)
  let zb : ql_Z := (ql_up z.1 5 (upd (z.1 5) (1600 + mm g s) (ii (mm g (cS g)))), z.2)
  have mB := mz_pj hz (s := s) hs (by omega)
  obtain ⟨z', a1, a2, a3, a4, a5, a6⟩ := m_184 (z := zb) (g := pj g s (cS g)) (k := k) (o := o) hN ht h mB h21 h25 hk
  have i0 : z.1 25 0 - 1 = ii o := by rw [h25, lk_1, ii_sub (by omega), show o + 1 - 1 = o by omega]
  have ib : ql_ib (ii o) 9 = true := ii_ib (by omega) (by omega)
  have lo : ¬ ii o < (0 : Int32) := fun y => by
    have := (ii_lt (a := o) (b := 0) (by omega) (by omega)).mp y
    omega
  refine ⟨z', ?_, a2, a3, a4, a5, fn_t (z' := zb) (f' := o) ⟨rfl, rfl, rfl, fun _ _ => rfl, fun _ _ => ⟨rfl, rfl⟩, fun _ _ => ⟨rfl, rfl⟩, rfl, fun q hq => ⟨rfl, rfl, rfl⟩⟩ a6 (Nat.le_refl _)⟩
  unfold f_X11_follows f_X11_follows_0
  rw [i0, h.2.2.1, e]
  refine sn (show ¬ ii (mt 5) = (19 : Int32) by decide) (sn (show ¬ ii (mt 5) = (6 : Int32) by decide) ?_)
  unfold f_X11_follows_82
  rw [ii_nat (by omega), h.2.2.1, e]
  refine sn lo (sp ib (sp (by rw [f3]; rfl) ?_))
  unfold f_X11_follows_106
  refine sp rfl ?_
  unfold f_X11_follows_114
  rw [ii_nat (by omega), f1, f2, f3]
  have fin : f_X11_follows_181 N z (ii (mm g s)) = some (ii 2, z') := by
    unfold f_X11_follows_181
    exact sb la a1
  refine sn (show ¬ (1 : Int32) = 0 by decide) (sp ib (sp rfl (sp ib ?_)))
  rcases hj with ⟨j1, j2⟩ | j1
  · rw [j1]
    refine sn (show ¬ (0 : Int32) ≤ -ii 1 by decide) (sp ib ?_)
    rw [j2]; exact fin
  · rw [j1]
    refine sp ((ii_le (a := 0) (b := mm g s) (by omega) (by omega)).mpr (by omega)) (sp ib fin)
/-- od -/
theorem m_fod (hN : 1000 ≤ N) (ht : ts b L tk bg nx c) {z : ql_Z} {k o s : Nat} {g : cT} {j : Int32} (h : mk b L tk bg nx z k) (hz : mz z.1 g) (h21 : z.1 21 0 = ii (o + 1)) (h25 : z.1 25 0 = ii (o + 1)) (ho : o < 8) (hM : mm g (cS g) < 400) (hk : k < c) (e : tk k = 8) (hs : s < cS g) (hK : cK g s = 3) (hf : opn z o (mm g s) j 1) :
    clo N L b tk bg nx z k o (pj (ad g 5 0 (some s)) s (cS g + 1)) := by
  obtain ⟨f1, f2, f3⟩ := hf
  have m1 : mm g s < mm g (cS g) := mm_lt (by omega) hs
  have pu : f_X11_puts N z 2 0 (ii (mm g s)) = some (ii (mm g (cS g)), zp z (mm g (cS g)) (ii 2) (ii 0) (ii (mm g s))) := m_puts hz.1 hM
  let za : ql_Z := zp z (mm g (cS g)) (ii 2) (ii 0) (ii (mm g s))
  have e6 : za.1 6 4 = ii (mm g (cS g) + 1) := by
    show upd (z.1 6) 4 (ii (mm g (cS g) + 1)) 4 = _
    rw [ud_same]
  have la := m_lands (N := N) e6 (show mm g s < 400 by omega)
  let zb : ql_Z := (ql_up za.1 5 (upd (za.1 5) (1600 + mm g s) (ii (mm g (cS g) + 1))), za.2)
  have mA := mz_leap (t := ii (mm g s)) (j := some s) hz (fun x e => by injection e with e; rw [← e]; exact ⟨by omega, rfl⟩)
  have eKs : cK (ad g 5 0 (some s)) s = 3 := (un_n (by omega)).trans hK
  have mB := mz_pj mA (s := s) (show s < cS g + 1 by omega) (Or.inr (Or.inl eKs))
  have q1 : mm (ad g 5 0 (some s)) s = mm g s := mm_c _ (fun y hy => ⟨un_n (by omega), un_n (by omega)⟩)
  have q2 : mm (ad g 5 0 (some s)) (cS (ad g 5 0 (some s))) = mm g (cS g) + 1 := by
    show mm (ad g 5 0 (some s)) (cS g + 1) = _
    have eK : cK (ad g 5 0 (some s)) (cS g) = 5 := un_s _ _ _
    rw [mm_s (g := ad g 5 0 (some s)) (by rw [eK]; omega), mm_c (g := g) (cS g) (fun y hy => ⟨un_n (by omega), un_n (by omega)⟩)]
  rw [q1, q2] at mB
  obtain ⟨z', a1, a2, a3, a4, a5, a6⟩ := m_184 (z := zb) (g := pj (ad g 5 0 (some s)) s (cS g + 1)) (k := k) (o := o) hN ht h mB h21 h25 hk
  have i0 : z.1 25 0 - 1 = ii o := by rw [h25, lk_1, ii_sub (by omega), show o + 1 - 1 = o by omega]
  have ib : ql_ib (ii o) 9 = true := ii_ib (by omega) (by omega)
  have lo : ¬ ii o < (0 : Int32) := fun y => by
    have := (ii_lt (a := o) (b := 0) (by omega) (by omega)).mp y
    omega
  refine ⟨z', ?_, a2, a3, a4, a5, fn_t (z' := zb) (f' := o) ⟨rfl, rfl, rfl, fun _ _ => rfl, fun _ _ => ⟨rfl, rfl⟩, fun _ _ => ⟨rfl, rfl⟩, rfl, fun q hq => ⟨rfl, rfl, rfl⟩⟩ a6 (Nat.le_refl _)⟩
  unfold f_X11_follows f_X11_follows_0
  rw [i0, h.2.2.1, e]
  refine sn (show ¬ ii (mt 8) = (19 : Int32) by decide) (sn (show ¬ ii (mt 8) = (6 : Int32) by decide) ?_)
  unfold f_X11_follows_82
  rw [ii_nat (by omega), h.2.2.1, e]
  refine sn lo (sp ib (sn (by rw [f3]; decide) ?_))
  unfold f_X11_follows_106
  refine sp rfl ?_
  unfold f_X11_follows_114
  rw [ii_nat (by omega), f1, f3]
  refine sn (show ¬ (1 : Int32) = 0 by decide) (sp ib (sn (show ¬ ii 1 = (0 : Int32) by decide) (sp ib (sb pu (sp ib (sb (a := zb) ?_ a1))))))
  refine Eq.trans ?_ la
  rw [show (zp z (mm g (cS g)) (ii 2) (ii 0) (ii (mm g s))).1 22 o = ii (mm g s) from f1]
/-- nothing follows so: no word is open -/
theorem m_fno0 {z : ql_Z} {k : Nat} (hk0 : te_ok tk c) (h : mk b L tk bg nx z k) (h25 : z.1 25 0 = ii 0) (n17 : tk k ≠ 17) : f_X11_follows N z = some (0, z) := by
  have ne : ∀ s, 2 ≤ s → s ≤ 24 → tk k ≠ s - 2 → ¬ ii (mt (tk k)) = ii s := fun s a1 a2 a3 y => a3 ((mt_eq (hk0.2.2 k) a1 a2).mp y)
  have i0 : z.1 25 0 - 1 = -ii 1 := by rw [h25]; rfl
  have f82 : f_X11_follows_82 N z (-ii 1) = some (0, z) := by
    unfold f_X11_follows_82
    refine sp (show -ii 1 < (0 : Int32) by decide) ?_
    unfold f_X11_follows_113 f_X11_follows_114
    exact sp rfl rfl
  unfold f_X11_follows f_X11_follows_0
  rw [i0, h.2.2.1]
  refine sn (ne 19 (by omega) (by omega) n17) ?_
  by_cases q : ii (mt (tk k)) = (6 : Int32)
  · exact sp q (sp (show -ii 1 < (0 : Int32) by decide) f82)
  · exact sn q f82
/-- nothing follows so: a word is open -/
theorem m_fno {z : ql_Z} {k o s fl : Nat} {j : Int32} (hk0 : te_ok tk c) (h : mk b L tk bg nx z k) (h25 : z.1 25 0 = ii (o + 1)) (ho : o < 8) (hf : opn z o s j fl) (hfl : fl = 0 ∨ fl = 1) (n17 : tk k ≠ 17) (n4 : tk k = 4 → fl = 1 ∨ ∃ x, x < 400 ∧ j = ii x) (n5 : fl = 0 → tk k ≠ 5) (n8 : fl = 1 → tk k ≠ 8) : f_X11_follows N z = some (0, z) := by
  obtain ⟨f1, f2, f3⟩ := hf
  have ne : ∀ s, 2 ≤ s → s ≤ 24 → tk k ≠ s - 2 → ¬ ii (mt (tk k)) = ii s := fun s a1 a2 a3 y => a3 ((mt_eq (hk0.2.2 k) a1 a2).mp y)
  have i0 : z.1 25 0 - 1 = ii o := by rw [h25, lk_1, ii_sub (by omega), show o + 1 - 1 = o by omega]
  have ib : ql_ib (ii o) 9 = true := ii_ib (by omega) (by omega)
  have lo : ¬ ii o < (0 : Int32) := fun y => by
    have := (ii_lt (a := o) (b := 0) (by omega) (by omega)).mp y
    omega
  have f113 : f_X11_follows_113 N z (ii o) = some (0, z) := by
    unfold f_X11_follows_113 f_X11_follows_114
    exact sp rfl rfl
  have f82 : f_X11_follows_82 N z (ii o) = some (0, z) := by
    unfold f_X11_follows_82
    rw [ii_nat (by omega), h.2.2.1, f3]
    refine sn lo (sp ib ?_)
    rcases hfl with q | q
    · rw [q]
      refine sp rfl ?_
      unfold f_X11_follows_106
      exact sn (ne 7 (by omega) (by omega) (n5 q)) f113
    · rw [q]
      refine sn (show ¬ ii 1 = (0 : Int32) by decide) ?_
      unfold f_X11_follows_106
      exact sn (ne 10 (by omega) (by omega) (n8 q)) f113
  unfold f_X11_follows f_X11_follows_0
  rw [i0, h.2.2.1, ii_nat (by omega), f2, f3]
  refine sn (ne 19 (by omega) (by omega) n17) ?_
  by_cases q : ii (mt (tk k)) = (6 : Int32)
  · have q4 : tk k = 4 := (mt_eq (hk0.2.2 k) (s := 6) (by omega) (by omega)).mp q
    refine sp q (sn lo (sp ib ?_))
    rcases n4 q4 with r | ⟨x, r1, r2⟩
    · rw [r]
      exact sn (show ¬ ii 1 = (0 : Int32) by decide) f82
    · rcases hfl with w | w
      · rw [w, r2]
        exact sp rfl (sp ib (sp ((ii_le (a := 0) (b := x) (by omega) (by omega)).mpr (by omega)) f82))
      · rw [w]
        exact sn (show ¬ ii 1 = (0 : Int32) by decide) f82
  · exact sn q f82
end
