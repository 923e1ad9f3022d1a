section
variable {N L c : Nat} {b tk bg nx : Nat → Nat}
theorem mt_lt {t : Nat} (h : t < 25) : mt t < 27 := by
  unfold mt
  by_cases a : t = 23
  · rw [if_pos a]; omega
  · rw [if_neg a]
    by_cases b : t = 24
    · rw [if_pos b]; omega
    · rw [if_neg b]; omega
/-- an act's letter or not -/
theorem m_in3 {t : Nat} (h : t < 25) : f_X11_in N (ii (mt t)).toInt64 14 16 = some (if t = 12 ∨ t = 13 ∨ t = 14 then ii 1 else ii 0) := by
  refine (m_in N (ii (mt t)) 14 16).trans ?_
  have tt : ∀ t : Fin 25, (if ii (mt t.1) < 14 then ii 0 else if 16 < ii (mt t.1) then ii 0 else ii 1) = (if t.1 = 12 ∨ t.1 = 13 ∨ t.1 = 14 then ii 1 else ii 0) := by decide +kernel
  exact congrArg some (tt ⟨t, h⟩)
/-- want -/
theorem m_b9 (hN : 1000 ≤ N) (ht : ts b L tk bg nx c) (hk0 : te_ok tk c) {z : ql_Z} {k o d : Nat} {g : cT} (hg : gok c k g) (h : mk b L tk bg nx z k) (hz : mz z.1 g) (h21 : z.1 21 0 = ii o) (ho : o ≤ 8) (hu : us g (cS g) < 200) (hk : k < c) (e : tk k = 9) : bgo N L b tk bg nx z (q1 tk (d + 1) o k g) := by
  have hc := hk0.1
  have hM : mm g (cS g) < 400 := by have := mm_le (g := g) (cS g); have := hg.1; omega
  obtain ⟨z1, a1, a2, a3⟩ := mk_s hN ht h rfl rfl rfl hk
  have f1 : ∀ s, s ≠ 14 → s ≠ 15 → s ≠ 16 → z1.1 s = z.1 s := a2.1
  have h21' : z1.1 21 0 = ii o := by rw [f1 21 (by decide) (by decide) (by decide)]; exact h21
  obtain ⟨t1, t2, t3, t4⟩ := pt_ro hk0 (o := o) (show k + 1 ≤ c by omega)
  obtain ⟨g1, g2⟩ := m_test hN ht hk0 ho (show k + 1 ≤ c by omega) (by omega) a3 h21'
  have i3 : f_X11_in N (ii (mt (tk k))).toInt64 14 16 = some (ii 0) := by
    have := m_in3 (N := N) (hk0.2.2 k)
    rw [if_neg (by omega)] at this; exact this
  rw [e] at i3
  rw [q1, if_neg (by omega), if_neg (by omega), if_neg (by omega), if_neg (by omega), if_pos e]
  by_cases q : (pt tk o (k + 1)).1 = true
  · rw [if_pos q]
    obtain ⟨z2, b1, b2, b3, b4⟩ := g1 q
    generalize (pt tk o (k + 1)).2.1 = w at *
    have hz2 : mz z2.1 g := mz_f hz (fun s s1 s2 => (b4.1 s (by omega)).trans (f1 s (by omega) (by omega) (by omega)))
    have no : f_X11_notes N z2 4 (ii (pcn w)) = some (zn z2 (us g (cS g)) (ii 4) (ii (pcn w))) := m_notes hz2.2.2.1 hu
    have pu : f_X11_puts N (zn z2 (us g (cS g)) (ii 4) (ii (pcn w))) 1 (ii w) (-1) = some (ii (mm g (cS g)), zp (zn z2 (us g (cS g)) (ii 4) (ii (pcn w))) (mm g (cS g)) (ii 1) (ii w) (-ii 1)) := m_puts hz2.1 hM
    have mb := mz_both (k := 4) (w := w) (d := 1) (v := ii (pcn w)) (t := -ii 1) (j := none) hz2 (by omega) (by omega) (by omega) (fun t e => by cases e) (fun e => rfl) (fun m => by
      by_cases c : m = ii w
      · exact Or.inr (Or.inr (Or.inl ⟨rfl, rfl, rfl, rfl, c⟩))
      · exact Or.inr (Or.inr (Or.inr c)))
    refine ⟨fun _ => ⟨zp (zn z2 (us g (cS g)) (ii 4) (ii (pcn w))) (mm g (cS g)) (ii 1) (ii w) (-ii 1), ?_, b2, mb, ?_, ?_, fun f => fn_t (fn_t (fn_t (fs_n a2 f) (fo_n b4 f) (Nat.le_refl _)) (zn_n z2 _ _ _ f) (Nat.le_refl _)) (zp_n _ _ _ _ _ f) (Nat.le_refl _)⟩, fun x => absurd rfl x⟩
    · unfold f_X11_begins f_X11_begins_0
      rw [h.2.2.1, e]
      refine sn (show ¬ ii (mt 9) = (2 : Int32) by decide) (sn (show ¬ ii (mt 9) = (3 : Int32) by decide) (sb i3 (sp rfl (sp rfl (sb a1 (sb b1 (sp ?_ (sb (m_sizeOf t1) (sb no (sb pu rfl))))))))))
      exact (ii_le (a := 0) (b := w) (by omega) (by omega)).mpr (by omega)
    · show z2.1 21 0 = _
      rw [b3, h21]
    · show z2.1 25 0 = _
      rw [b4.1 25 (by omega), f1 25 (by decide) (by decide) (by decide)]
  · rw [if_neg q]
    obtain ⟨z2, b1, b2, b3⟩ := g2 q
    refine ⟨(fun x => by cases x), fun _ => ⟨z2, ?_, b2, fun f => fn_t (fs_n a2 f) (fo_n b3 f) (Nat.le_refl _)⟩⟩
    unfold f_X11_begins f_X11_begins_0
    rw [h.2.2.1, e]
    exact sn (show ¬ ii (mt 9) = (2 : Int32) by decide) (sn (show ¬ ii (mt 9) = (3 : Int32) by decide) (sb i3 (sp rfl (sp rfl (sb a1 (sb b1 (sn (show ¬ (0 : Int32) ≤ -ii 1 by decide) rfl)))))))
/-- no statement begins so -/
theorem m_bno {z : ql_Z} {k o d : Nat} {g : cT} (hk0 : te_ok tk c) (h : mk b L tk bg nx z k) (n0 : tk k ≠ 0) (n1 : tk k ≠ 1) (n2 : tk k ≠ 2) (n6 : tk k ≠ 6) (n9 : tk k ≠ 9) (na : ¬ (tk k = 12 ∨ tk k = 13 ∨ tk k = 14)) : bgo N L b tk bg nx z (q1 tk (d + 1) o k g) := by
  have h25 := hk0.2.2 k
  have ne : ∀ s, 2 ≤ s → s ≤ 24 → tk k ≠ s - 2 → ¬ ii (mt (tk k)) = ii s := fun s a1 a2 a3 y => a3 ((mt_eq h25 a1 a2).mp y)
  have i3 : f_X11_in N (ii (mt (tk k))).toInt64 14 16 = some (ii 0) := by
    have := m_in3 (N := N) h25
    rw [if_neg na] at this; exact this
  rw [q1, if_neg n0, if_neg n1, if_neg n2, if_neg n6, if_neg n9, if_neg na]
  refine ⟨(fun x => by cases x), fun _ => ⟨z, ?_, h.2.2.2, fun f => fn_r z f⟩⟩
  unfold f_X11_begins f_X11_begins_0
  rw [h.2.2.1]
  have op : f_X11_opens N z (ii (mt (tk k))) = some (0, z) := by
    unfold f_X11_opens f_X11_opens_0
    exact sn (ne 4 (by omega) (by omega) n2) (sn (ne 8 (by omega) (by omega) n6) rfl)
  exact sn (ne 2 (by omega) (by omega) n0) (sn (ne 3 (by omega) (by omega) n1) (sb i3 (sp rfl (sn (ne 11 (by omega) (by omega) n9) (sb op (sp rfl rfl))))))
/-- an act -/
theorem m_ba (hN : 1000 ≤ N) (ht : ts b L tk bg nx c) (hk0 : te_ok tk c) {z : ql_Z} {k o d : Nat} {g : cT} (hg : gok c k g) (h : mk b L tk bg nx z k) (hz : mz z.1 g) (hu : us g (cS g) < 200) (hk : k < c) (na : tk k = 12 ∨ tk k = 13 ∨ tk k = 14) : bgo N L b tk bg nx z (q1 tk (d + 1) o k g) := by
  have hc := hk0.1
  have h25 := hk0.2.2 k
  have hM : mm g (cS g) < 400 := by have := mm_le (g := g) (cS g); have := hg.1; omega
  have hn := hg.2.1
  have ne : ∀ s, 2 ≤ s → s ≤ 24 → tk k ≠ s - 2 → ¬ ii (mt (tk k)) = ii s := fun s a1 a2 a3 y => a3 ((mt_eq h25 a1 a2).mp y)
  have i3 : f_X11_in N (ii (mt (tk k))).toInt64 14 16 = some (ii 1) := by
    have := m_in3 (N := N) h25
    rw [if_pos na] at this; exact this
  have hv : ii (mt (tk k)) - 14 + 1 = ii (tk k - 11) := by
    rcases na with e | e | e
    · rw [e]; rfl
    · rw [e]; rfl
    · rw [e]; rfl
  have ha : 1 ≤ tk k - 11 ∧ tk k - 11 ≤ 3 := by omega
  have z9 : z.1 9 4 = ii (cN g) := hz.2.1
  rw [q1, if_neg (by omega), if_neg (by omega), if_neg (by omega), if_neg (by omega), if_neg (by omega), if_pos na]
  generalize tk k - 11 = a at *
  by_cases q : cN g < 16
  · rw [if_pos q]
    have n16 : ¬ z.1 9 4 = (16 : Int32) := fun y => by
      rw [z9] at y
      have := (ii_eq (a := cN g) (b := 16) (by omega) (by omega)).mp y
      omega
    have ia : (68 : Int32) + upd (z.1 9) 4 (z.1 9 4 + 1) 4 = ii (68 + (cN g + 1)) := by
      rw [ud_same, z9, lk_1, ii_add, lk_68, ii_add]
    have z9' : z.1 9 4 + 1 = ii (cN g + 1) := by rw [z9, lk_1, ii_add]
    let za : ql_Z := (ql_up (ql_up z.1 7 (upd (z.1 7) (68 + (cN g + 1)) (ii a))) 9 (upd (z.1 9) 4 (ii (cN g + 1))), z.2)
    have no : f_X11_notes N za 1 (ii a) = some (zn za (us g (cS g)) (ii 1) (ii a)) := m_notes hz.2.2.1 hu
    have pu : f_X11_puts N (zn za (us g (cS g)) (ii 1) (ii a)) 0 (ii (cN g + 1)) 0 = some (ii (mm g (cS g)), zp (zn za (us g (cS g)) (ii 1) (ii a)) (mm g (cS g)) (ii 0) (ii (cN g + 1)) (ii 0)) := m_puts hz.1 hM
    let zb : ql_Z := zp (zn za (us g (cS g)) (ii 1) (ii a)) (mm g (cS g)) (ii 0) (ii (cN g + 1)) (ii 0)
    let zc : ql_Z := (ql_up zb.1 8 (upd (z.1 8) (68 + (cN g + 1)) (ii (mm g (cS g) + 1))), z.2)
    obtain ⟨z', a1, a2, a3⟩ := mk_s hN ht (z1 := zc) h rfl rfl rfl hk
    have ib : ql_ib (ii (68 + (cN g + 1))) 85 = true := ii_ib (by omega) (by omega)
    have mp : mz zc.1 (pl g a) := by
      refine mz_pl hz ha (fun y hy => ⟨?_, ?_, ?_⟩) (fun u hu => ⟨?_, ?_⟩) (fun q hq => ⟨?_, ?_⟩) ?_ ?_ ?_ ?_ ?_ ?_ ?_ ?_ ?_
      · show upd (z.1 3) (1600 + mm g (cS g)) _ (1600 + y) = _
        rw [ud_ne (by omega)]
      · show upd (z.1 4) (1600 + mm g (cS g)) _ (1600 + y) = _
        rw [ud_ne (by omega)]
      · show upd (z.1 5) (1600 + mm g (cS g)) _ (1600 + y) = _
        rw [ud_ne (by omega)]
      · show upd (z.1 10) (800 + us g (cS g)) _ (800 + u) = _
        rw [ud_ne (by omega)]
      · show upd (z.1 11) (800 + us g (cS g)) _ (800 + u) = _
        rw [ud_ne (by omega)]
      · show upd (z.1 7) (68 + (cN g + 1)) _ (68 + q) = _
        rw [ud_ne (by omega)]
      · show upd (z.1 8) (68 + (cN g + 1)) _ (68 + q) = _
        rw [ud_ne (by omega)]
      · show upd (z.1 7) (68 + (cN g + 1)) (ii a) (68 + (cN g + 1)) = _
        rw [ud_same]
      · show upd (z.1 8) (68 + (cN g + 1)) (ii (mm g (cS g) + 1)) (68 + (cN g + 1)) = _
        rw [ud_same]
      · show upd (z.1 9) 4 (ii (cN g + 1)) 4 = _
        rw [ud_same]
      · show upd (z.1 6) 4 (ii (mm g (cS g) + 1)) 4 = _
        rw [ud_same]
      · show upd (z.1 12) 4 (ii (us g (cS g) + 1)) 4 = _
        rw [ud_same]
      · show upd (z.1 3) (1600 + mm g (cS g)) (ii 0) (1600 + mm g (cS g)) = _
        rw [ud_same]
      · show upd (z.1 4) (1600 + mm g (cS g)) (ii (cN g + 1)) (1600 + mm g (cS g)) = _
        rw [ud_same]
      · show upd (z.1 10) (800 + us g (cS g)) (ii 1) (800 + us g (cS g)) = _
        rw [ud_same]
      · show upd (z.1 11) (800 + us g (cS g)) (ii a) (800 + us g (cS g)) = _
        rw [ud_same]
    have fa : ∀ f, fn z za f := fun f => ⟨rfl, rfl, rfl, fun q hq => by
      show upd (z.1 7) (68 + (cN g + 1)) (ii a) q = _
      rw [ud_ne (by omega)], fun _ _ => ⟨rfl, rfl⟩, fun q hq => ⟨by
      show upd (z.1 9) 4 (ii (cN g + 1)) q = _
      rw [ud_ne hq], rfl⟩, rfl, fun _ _ => ⟨rfl, rfl, rfl⟩⟩
    have fb : ∀ f, fn zb zc f := fun f => ⟨rfl, rfl, rfl, fun _ _ => rfl, fun _ _ => ⟨rfl, rfl⟩, fun _ _ => ⟨rfl, rfl⟩, rfl, fun _ _ => ⟨rfl, rfl, rfl⟩⟩
    refine ⟨fun _ => ⟨z', ?_, a3, mz_f mp (fun s _ _ => a2.1 s (by omega) (by omega) (by omega)), ?_, ?_, fun f => fn_t (fn_t (fn_t (fn_t (fa f) (zn_n za _ _ _ f) (Nat.le_refl _)) (zp_n _ _ _ _ _ f) (Nat.le_refl _)) (fb f) (Nat.le_refl _)) (fs_n a2 f) (Nat.le_refl _)⟩, fun x => absurd rfl x⟩
    · unfold f_X11_begins f_X11_begins_0
      rw [ia, z9', h.2.2.1, hv, ii_nat (by omega)]
      have e9 : (zn za (us g (cS g)) (ii 1) (ii a)).1 9 4 = ii (cN g + 1) := by
        show upd (z.1 9) 4 (ii (cN g + 1)) 4 = _
        rw [ud_same]
      refine sn (ne 2 (by omega) (by omega) (by omega)) (sn (ne 3 (by omega) (by omega) (by omega)) (sb i3 (sn (show ¬ ii 1 = (0 : Int32) by decide) (sn n16 (sp ib (sb no ?_))))))
      rw [e9]
      refine sb pu ?_
      rw [lk_68, ii_add, ii_nat (by omega), lk_1, ii_add]
      exact sp ib (sb a1 rfl)
    · rw [a2.1 21 (by decide) (by decide) (by decide)]; rfl
    · rw [a2.1 25 (by decide) (by decide) (by decide)]; rfl
  · rw [if_neg q]
    have n16 : z.1 9 4 = (16 : Int32) := by
      rw [z9, show cN g = 16 by omega]; rfl
    refine ⟨(fun x => by cases x), fun _ => ⟨z, ?_, h.2.2.2, fun f => fn_r z f⟩⟩
    unfold f_X11_begins f_X11_begins_0
    rw [h.2.2.1]
    exact sn (ne 2 (by omega) (by omega) (by omega)) (sn (ne 3 (by omega) (by omega) (by omega)) (sb i3 (sn (show ¬ ii 1 = (0 : Int32) by decide) (sp n16 rfl))))
end
