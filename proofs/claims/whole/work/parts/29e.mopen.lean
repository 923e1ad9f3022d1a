section
variable {N L c : Nat} {b tk bg nx : Nat → Nat}
def zo (z : ql_Z) (g : cT) (kd w o fl : Nat) : ql_Z :=
  (ql_up (ql_up (ql_up (ql_up (zp (zn z (us g (cS g)) (ii kd) (ii (pcn w))) (mm g (cS g)) (ii 1) (ii w) (ii 0)).1 22 (upd (z.1 22) o (ii (mm g (cS g))))) 23 (upd (z.1 23) o (-ii 1))) 24 (upd (z.1 24) o (ii fl))) 25 (fun _ => ii (o + 1)), z.2)
/-- a word is open: where it stands -/
def opn (z : ql_Z) (o s : Nat) (j : Int32) (fl : Nat) : Prop := z.1 22 o = ii s ∧ z.1 23 o = j ∧ z.1 24 o = ii fl
theorem m_op76 (hN : 1000 ≤ N) (ht : ts b L tk bg nx c) {z : ql_Z} {k o kd w fl : Nat} {g : cT} {x1 : Int32} (hM : mm g (cS g) < 400) (hu : us g (cS g) < 200) (h : mk b L tk bg nx z k) (hz : mz z.1 g) (h25 : z.1 25 0 = ii o) (ho : o < 8) (hk : k < c) (hw : w < 16) (hkd : kd = 2 ∨ kd = 3) (hx : (x1 = 8 ∧ fl = 1) ∨ (x1 ≠ 8 ∧ fl = 0)) :
    ∃ z', f_X11_opens_76 N z x1 (ii w) (ii kd) = some (ii 1, z') ∧ mk b L tk bg nx z' (k + 1) ∧ mz z'.1 (ad g kd w none) ∧ z'.1 21 0 = z.1 21 0 ∧ z'.1 25 0 = ii (o + 1) ∧ opn z' o (mm g (cS g)) (-ii 1) fl ∧ fn z z' o := by
  have no : f_X11_notes N z (ii kd) (ii (pcn w)) = some (zn z (us g (cS g)) (ii kd) (ii (pcn w))) := m_notes hz.2.2.1 hu
  have pu : f_X11_puts N (zn z (us g (cS g)) (ii kd) (ii (pcn w))) 1 (ii w) 0 = some (ii (mm g (cS g)), zp (zn z (us g (cS g)) (ii kd) (ii (pcn w))) (mm g (cS g)) (ii 1) (ii w) (ii 0)) := m_puts hz.1 hM
  obtain ⟨z', a1, a2, a3⟩ := mk_s hN ht (z1 := zo z g kd w o fl) h rfl rfl rfl hk
  have mb := mz_both (z := z) (k := kd) (w := w) (d := 1) (v := ii (pcn w)) (t := ii 0) (j := none) hz (by omega) (by omega) (by omega) (fun t e => by cases e) (fun e => rfl) (fun m => by
    by_cases c : m = (if kd = 0 then ii 0 else ii w)
    · refine Or.inr (Or.inl ⟨hkd, rfl, rfl, ?_⟩)
      rw [c, if_neg (by omega)]
    · exact Or.inr (Or.inr (Or.inr c)))
  rw [if_neg (by omega)] at mb
  have ib : ql_ib (ii o) 9 = true := ii_ib (by omega) (by omega)
  have e22 := a2.1 22 (by decide) (by decide) (by decide)
  have e23 := a2.1 23 (by decide) (by decide) (by decide)
  have e24 := a2.1 24 (by decide) (by decide) (by decide)
  refine ⟨z', ?_, a3, ?_, ?_, ?_, ⟨?_, ?_, ?_⟩, ?_⟩
  · unfold f_X11_opens_76
    refine sb (m_sizeOf hw) (sb no (sb pu ?_))
    have q3 : (zn z (us g (cS g)) (ii kd) (ii (pcn w))).1 25 0 = ii o := h25
    have q4 : (zp (zn z (us g (cS g)) (ii kd) (ii (pcn w))) (mm g (cS g)) (ii 1) (ii w) (ii 0)).1 25 0 = ii o := h25
    rw [q3, q4, ii_nat (by omega)]
    refine sp ib (sp ib ?_)
    have fin : ∀ y : Int32, vp_nar .boolean y = ii fl → f_X11_opens_128 N (ql_up (ql_up (zp (zn z (us g (cS g)) (ii kd) (ii (pcn w))) (mm g (cS g)) (ii 1) (ii w) (ii 0)).1 22 (upd ((zp (zn z (us g (cS g)) (ii kd) (ii (pcn w))) (mm g (cS g)) (ii 1) (ii w) (ii 0)).1 22) o (ii (mm g (cS g))))) 23 (upd ((zp (zn z (us g (cS g)) (ii kd) (ii (pcn w))) (mm g (cS g)) (ii 1) (ii w) (ii 0)).1 23) o (-1)), (zp (zn z (us g (cS g)) (ii kd) (ii (pcn w))) (mm g (cS g)) (ii 1) (ii w) (ii 0)).2) y (ii o) = some (ii 1, z') := fun y hy => by
      unfold f_X11_opens_128
      rw [hy, ii_nat (by omega)]
      have q5 : (ql_up (ql_up (zp (zn z (us g (cS g)) (ii kd) (ii (pcn w))) (mm g (cS g)) (ii 1) (ii w) (ii 0)).1 22 (upd ((zp (zn z (us g (cS g)) (ii kd) (ii (pcn w))) (mm g (cS g)) (ii 1) (ii w) (ii 0)).1 22) o (ii (mm g (cS g))))) 23 (upd ((zp (zn z (us g (cS g)) (ii kd) (ii (pcn w))) (mm g (cS g)) (ii 1) (ii w) (ii 0)).1 23) o (-1))) 25 0 + 1 = ii (o + 1) := by
        show z.1 25 0 + 1 = _
        rw [h25, lk_1, ii_add]
      refine sp ib (sb (a := z') ?_ rfl)
      refine Eq.trans ?_ a1
      rw [q5]; rfl
    rcases hx with ⟨c1, c2⟩ | ⟨c1, c2⟩
    · refine sp c1 (fin 1 ?_)
      rw [c2]; decide
    · refine sn c1 (fin 0 ?_)
      rw [c2]; decide
  · exact mz_f mb (fun s _ _ => (a2.1 s (by omega) (by omega) (by omega)).trans ((up_ne (by omega)).trans ((up_ne (by omega)).trans ((up_ne (by omega)).trans (up_ne (by omega))))))
  · rw [a2.1 21 (by decide) (by decide) (by decide)]; rfl
  · rw [a2.1 25 (by decide) (by decide) (by decide)]; rfl
  · rw [e22]
    show upd (z.1 22) o (ii (mm g (cS g))) o = _
    rw [ud_same]
  · rw [e23]
    show upd (z.1 23) o (-ii 1) o = _
    rw [ud_same]
  · rw [e24]
    show upd (z.1 24) o (ii fl) o = _
    rw [ud_same]
  · refine fn_t (fn_t (fn_t (zn_n z (us g (cS g)) (ii kd) (ii (pcn w)) o) (zp_n _ (mm g (cS g)) (ii 1) (ii w) (ii 0) o) (Nat.le_refl _)) (z'' := zo z g kd w o fl) (f' := o) ⟨rfl, rfl, rfl, fun _ _ => rfl, fun _ _ => ⟨rfl, rfl⟩, fun _ _ => ⟨rfl, rfl⟩, rfl, fun q hq => ⟨?_, ?_, ?_⟩⟩ (Nat.le_refl _)) (fs_n a2 o) (Nat.le_refl _)
    · show upd (z.1 22) o (ii (mm g (cS g))) q = _
      rw [ud_ne (by omega)]; rfl
    · show upd (z.1 23) o (-ii 1) q = _
      rw [ud_ne (by omega)]; rfl
    · show upd (z.1 24) o (ii fl) q = _
      rw [ud_ne (by omega)]; rfl
/-- what a word opens -/
def ogo (N L : Nat) (b tk bg nx : Nat → Nat) (z : ql_Z) (g : cT) (o k kd e fl : Nat) : Prop :=
  ((pt tk (o + 1) (k + 1)).1 = true ∧ tk (pt tk (o + 1) (k + 1)).2.2 = e → ∃ z', f_X11_begins N z = some (ii 1, z') ∧ mk b L tk bg nx z' ((pt tk (o + 1) (k + 1)).2.2 + 1) ∧ mz z'.1 (ad g kd (pt tk (o + 1) (k + 1)).2.1 none) ∧ z'.1 21 0 = ii (o + 1) ∧ z'.1 25 0 = ii (o + 1) ∧ opn z' o (mm g (cS g)) (-ii 1) fl ∧ fn z z' o) ∧
  (¬ ((pt tk (o + 1) (k + 1)).1 = true ∧ tk (pt tk (o + 1) (k + 1)).2.2 = e) → ∃ z', f_X11_begins N z = some (ii 0, z') ∧ z'.1 16 0 = ii (bg (pt tk (o + 1) (k + 1)).2.2) ∧ fn z z' o)
theorem m_owo (hN : 1000 ≤ N) (ht : ts b L tk bg nx c) (hk0 : te_ok tk c) {z : ql_Z} {k o kd e fl : Nat} {g : cT} (hg : gok c k g) (h : mk b L tk bg nx z k) (hz : mz z.1 g) (h21 : z.1 21 0 = ii o) (h25 : z.1 25 0 = ii o) (ho : o < 8) (hu : us g (cS g) < 200) (hk : k < c) (hkd : (tk k = 2 ∧ kd = 2 ∧ e = 3 ∧ fl = 0) ∨ (tk k = 6 ∧ kd = 3 ∧ e = 7 ∧ fl = 1)) : ogo N L b tk bg nx z g o k kd e fl := by
  have hc := hk0.1
  have t25 := hk0.2.2 k
  have ne : ∀ s, 2 ≤ s → s ≤ 24 → tk k ≠ s - 2 → ¬ ii (mt (tk k)) = ii s := fun s a1 a2 a3 y => a3 ((mt_eq t25 a1 a2).mp y)
  have yes : ∀ s, 2 ≤ s → s ≤ 24 → tk k = s - 2 → ii (mt (tk k)) = ii s := fun s a1 a2 a3 => (mt_eq t25 a1 a2).mpr a3
  have hM : mm g (cS g) < 400 := by have := mm_le (g := g) (cS g); have := hg.1; omega
  let za : ql_Z := (ql_up z.1 21 (fun _ => ii (o + 1)), z.2)
  obtain ⟨z1, a1, a2, a3⟩ := mk_s hN ht (z1 := za) h rfl rfl rfl hk
  have h21' : z1.1 21 0 = ii (o + 1) := by rw [a2.1 21 (by decide) (by decide) (by decide)]; rfl
  obtain ⟨t1, t2, t3, t4⟩ := pt_ro hk0 (o := o + 1) (show k + 1 ≤ c by omega)
  obtain ⟨g1, g2⟩ := m_test hN ht hk0 (show o + 1 ≤ 8 by omega) (show k + 1 ≤ c by omega) (by omega) a3 h21'
  have i3 : f_X11_in N (ii (mt (tk k))).toInt64 14 16 = some (ii 0) := by
    have := m_in3 (N := N) t25
    rw [if_neg (by omega)] at this; exact this
  have n8 : ¬ z.1 21 0 = (8 : Int32) := fun y => by
    rw [h21] at y
    have := (ii_eq (a := o) (b := 8) (by omega) (by omega)).mp y
    omega
  have z21 : z.1 21 0 + 1 = ii (o + 1) := by rw [h21, lk_1, ii_add]
  have fa : fn z za o := ⟨rfl, rfl, rfl, fun _ _ => rfl, fun _ _ => ⟨rfl, rfl⟩, fun _ _ => ⟨rfl, rfl⟩, rfl, fun _ _ => ⟨rfl, rfl, rfl⟩⟩
  have f1 : fn z z1 o := fn_t fa (fs_n a2 o) (Nat.le_refl _)
  have bg0 : ∀ r z', (r = ii 0 ∨ r = ii 1) → f_X11_opens_11 N z (ii (mt (tk k))) = some (r, z') → f_X11_begins N z = some (r, z') := fun r z' hr ho => by
    unfold f_X11_begins f_X11_begins_0
    rw [h.2.2.1]
    have op : f_X11_opens N z (ii (mt (tk k))) = some (r, z') := by
      unfold f_X11_opens f_X11_opens_0
      rcases hkd with ⟨c1, _⟩ | ⟨c1, _⟩
      · refine sp (yes 4 (by omega) (by omega) (by omega)) ho
      · refine sn (ne 4 (by omega) (by omega) (by omega)) (sp (yes 8 (by omega) (by omega) (by omega)) ho)
    refine sn (ne 2 (by omega) (by omega) (by omega)) (sn (ne 3 (by omega) (by omega) (by omega)) (sb i3 (sp rfl (sn (ne 11 (by omega) (by omega) (by omega)) (sb op (sp ?_ rfl))))))
    rcases hr with hr | hr
    · rw [hr]; rfl
    · rw [hr]; rfl
  by_cases q : (pt tk (o + 1) (k + 1)).1 = true
  · obtain ⟨z2, b1, b2, b3, b4⟩ := g1 q
    have f2 : fn z z2 o := fn_t f1 (fo_n b4 o) (Nat.le_refl _)
    have hz2 : mz z2.1 g := mz_f hz (fun s s1 s2 => (b4.1 s (by omega)).trans ((a2.1 s (by omega) (by omega) (by omega)).trans (up_ne (by omega))))
    have h25' : z2.1 25 0 = ii o := by
      rw [b4.1 25 (by omega), a2.1 25 (by decide) (by decide) (by decide)]; exact h25
    have t4 := t4 q
    unfold ogo
    generalize pt tk (o + 1) (k + 1) = r at *
    have u25 := hk0.2.2 r.2.2
    have ne2 : ∀ s, 2 ≤ s → s ≤ 24 → tk r.2.2 ≠ s - 2 → ¬ ii (mt (tk r.2.2)) = ii s := fun s a1 a2 a3 y => a3 ((mt_eq u25 a1 a2).mp y)
    have yes2 : ∀ s, 2 ≤ s → s ≤ 24 → tk r.2.2 = s - 2 → ii (mt (tk r.2.2)) = ii s := fun s a1 a2 a3 => (mt_eq u25 a1 a2).mpr a3
    have lo : ¬ ii r.2.1 < (0 : Int32) := fun y => by
      have := (ii_lt (a := r.2.1) (b := 0) (by omega) (by omega)).mp y
      omega
    refine ⟨fun x => ?_, fun x => ?_⟩
    · have hlt : r.2.2 < c := by
        have hne : r.2.2 ≠ c := fun y => by rw [y, hk0.2.1] at x; omega
        omega
      have hfl : (ii (mt (tk k)) = 8 ∧ fl = 1) ∨ (ii (mt (tk k)) ≠ 8 ∧ fl = 0) := by
        rcases hkd with ⟨c1, _, _, c4⟩ | ⟨c1, _, _, c4⟩
        · exact Or.inr ⟨ne 8 (by omega) (by omega) (by omega), c4⟩
        · exact Or.inl ⟨yes 8 (by omega) (by omega) (by omega), c4⟩
      obtain ⟨z', d1, d2, d3, d4, d5, d6, d7⟩ := m_op76 (N := N) (x1 := ii (mt (tk k))) (kd := kd) (w := r.2.1) (fl := fl) hN ht hM hu b2 hz2 h25' ho hlt t1 (by omega) hfl
      refine ⟨z', bg0 _ _ (Or.inr rfl) ?_, d2, d3, d4.trans b3, d5, d6, fn_t f2 d7 (Nat.le_refl _)⟩
      unfold f_X11_opens_11
      rw [z21]
      refine sn n8 (sb a1 (sb b1 (sn lo ?_)))
      rw [b2.2.2.1]
      rcases hkd with ⟨c1, c2, c3, c4⟩ | ⟨c1, c2, c3, c4⟩
      · refine sp (yes 4 (by omega) (by omega) (by omega)) ?_
        unfold f_X11_opens_60
        refine sp (yes2 5 (by omega) (by omega) (by omega)) (sp (yes 4 (by omega) (by omega) (by omega)) ?_)
        rw [c2] at d1; exact d1
      · refine sn (ne 4 (by omega) (by omega) (by omega)) ?_
        unfold f_X11_opens_60
        refine sp (yes2 9 (by omega) (by omega) (by omega)) (sn (ne 4 (by omega) (by omega) (by omega)) ?_)
        rw [c2] at d1; exact d1
    · have x : tk r.2.2 ≠ e := fun y => x ⟨q, y⟩
      refine ⟨z2, bg0 _ _ (Or.inl rfl) ?_, b2.2.2.2, f2⟩
      unfold f_X11_opens_11
      rw [z21]
      refine sn n8 (sb a1 (sb b1 (sn lo ?_)))
      rw [b2.2.2.1]
      rcases hkd with ⟨c1, c2, c3, c4⟩ | ⟨c1, c2, c3, c4⟩
      · refine sp (yes 4 (by omega) (by omega) (by omega)) ?_
        unfold f_X11_opens_60
        exact sn (ne2 5 (by omega) (by omega) (by omega)) rfl
      · refine sn (ne 4 (by omega) (by omega) (by omega)) ?_
        unfold f_X11_opens_60
        exact sn (ne2 9 (by omega) (by omega) (by omega)) rfl
  · obtain ⟨z2, b1, b2, b3⟩ := g2 q
    refine ⟨fun x => absurd x.1 q, fun _ => ⟨z2, bg0 _ _ (Or.inl rfl) ?_, b2, fn_t f1 (fo_n b3 o) (Nat.le_refl _)⟩⟩
    unfold f_X11_opens_11
    rw [z21]
    exact sn n8 (sb a1 (sb b1 (sp (show -ii 1 < (0 : Int32) by decide) rfl)))
end
