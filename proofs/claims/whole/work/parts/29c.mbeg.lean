/-! an act -/
theorem mz_pl {z z' : ql_St} {g : cT} {a : Nat} (h : mz z g) (ha : 1 ≤ a ∧ a ≤ 3)
    (e3 : ∀ y, y < mm g (cS g) → z' 3 (1600 + y) = z 3 (1600 + y) ∧ z' 4 (1600 + y) = z 4 (1600 + y) ∧ z' 5 (1600 + y) = z 5 (1600 + y)) (e10 : ∀ u, u < us g (cS g) → z' 10 (800 + u) = z 10 (800 + u) ∧ z' 11 (800 + u) = z 11 (800 + u))
    (e7 : ∀ q, q ≤ cN g → z' 7 (68 + q) = z 7 (68 + q) ∧ z' 8 (68 + q) = z 8 (68 + q)) (p7 : z' 7 (68 + (cN g + 1)) = ii a) (p8 : z' 8 (68 + (cN g + 1)) = ii (mm g (cS g) + 1)) (e9 : z' 9 4 = ii (cN g + 1)) (e6 : z' 6 4 = ii (mm g (cS g) + 1)) (e12 : z' 12 4 = ii (us g (cS g) + 1))
    (s3 : z' 3 (1600 + mm g (cS g)) = ii 0) (s4 : z' 4 (1600 + mm g (cS g)) = ii (cN g + 1)) (s10 : z' 10 (800 + us g (cS g)) = ii 1) (s11 : z' 11 (800 + us g (cS g)) = ii a) : mz z' (pl g a) := by
  have kc : ∀ y, y < cS g → cK (pl g a) y = cK g y ∧ cW (pl g a) y = cW g y := fun y hy => ⟨un_n (by omega), un_n (by omega)⟩
  have mc' : ∀ x, x ≤ cS g → mm (pl g a) x = mm g x := fun x hx => mm_c x (fun y hy => kc y (by omega))
  have uc' : ∀ x, x ≤ cS g → us (pl g a) x = us g x := fun x hx => us_c x (fun y hy => (kc y (by omega)).1)
  have jc : ∀ x, x < cS g → cJ (pl g a) x = cJ g x := fun x hx => un_n (by omega)
  have eK : cK (pl g a) (cS g) = 1 := un_s _ _ _
  have eJ : cJ (pl g a) (cS g) = some (cN g + 1) := un_s _ _ _
  have eA : cA (pl g a) (cN g + 1) = a := un_s _ _ _
  have mN : mm (pl g a) (cS g + 1) = mm g (cS g) + 1 := by rw [mm_s (g := pl g a) (by rw [eK]; omega), mc' _ (Nat.le_refl _)]
  have uN : us (pl g a) (cS g + 1) = us g (cS g) + 1 := by rw [us_s (g := pl g a) (by rw [eK]; omega), uc' _ (Nat.le_refl _)]
  refine ⟨e6.trans (congrArg ii mN.symm), e9, e12.trans (congrArg ii uN.symm), fun x hx => ?_, fun q q1 q2 => ?_, fun x t hx ht => ?_⟩
  · by_cases q : x = cS g
    · subst q
      refine ⟨?_, fun _ => ?_⟩
      · unfold sr1
        rw [eK, eJ, mc' _ (Nat.le_refl _)]
        exact Or.inr (Or.inr (Or.inl ⟨rfl, cN g + 1, rfl, s3, s4⟩))
      · rw [eK, eJ, uc' _ (Nat.le_refl _)]
        refine ⟨s10, fun _ => ⟨cN g + 1, rfl, ?_⟩, fun e => by omega⟩
        rw [eA]; exact s11
    · have hx : x < cS g := by have : x < cS g + 1 := hx; omega
      obtain ⟨a0, b⟩ := h.2.2.2.1 x hx
      obtain ⟨kx, wx⟩ := kc x hx
      have jx := jc x hx
      have mx := mc' x (by omega)
      have ux := uc' x (by omega)
      have tj : ∀ t, cJ g x = some t → cK g x ≠ 1 → mm (pl g a) t = mm g t := fun t e n => mc' t ((h.2.2.2.2.2 x t hx e).2 n)
      have ar : ¬ (cK g x = 0 ∧ cW g x = 15) → z' 3 (1600 + mm g x) = z 3 (1600 + mm g x) ∧ z' 4 (1600 + mm g x) = z 4 (1600 + mm g x) ∧ z' 5 (1600 + mm g x) = z 5 (1600 + mm g x) := fun n => e3 _ (mm_lt n hx)
      refine ⟨?_, ?_⟩
      · unfold sr1
        rw [kx, wx, jx, mx]
        rcases a0 with a | ⟨a1, a2, a3, a4⟩ | ⟨a1, t, a2, a3, a4⟩ | ⟨a1, a2, a3, a4⟩ | ⟨a1, a2, a3, a4, a5⟩ | ⟨a1, a2, a3, a4⟩
        · exact Or.inl a
        · obtain ⟨r1, r2, r3⟩ := ar (by omega)
          exact Or.inr (Or.inl ⟨a1, a2, a3, r1.trans a4⟩)
        · obtain ⟨r1, r2, r3⟩ := ar (by omega)
          exact Or.inr (Or.inr (Or.inl ⟨a1, t, a2, r1.trans a3, r2.trans a4⟩))
        · obtain ⟨r1, r2, r3⟩ := ar (by omega)
          exact Or.inr (Or.inr (Or.inr (Or.inl ⟨a1, r1.trans a2, r2.trans a3, fun t e => by rw [tj t e (by omega)]; exact r3.trans (a4 t e)⟩)))
        · obtain ⟨r1, r2, r3⟩ := ar (by omega)
          exact Or.inr (Or.inr (Or.inr (Or.inr (Or.inl ⟨a1, a2, r1.trans a3, r2.trans a4, r3.trans a5⟩))))
        · obtain ⟨r1, r2, r3⟩ := ar (by omega)
          exact Or.inr (Or.inr (Or.inr (Or.inr (Or.inr ⟨a1, a2, r1.trans a3, fun t e => by rw [tj t e (by omega)]; exact r3.trans (a4 t e)⟩))))
      · intro h5
        rw [kx] at h5
        obtain ⟨b1, b2, b3⟩ := b h5
        obtain ⟨r1, r2⟩ := e10 _ (us_lt h5 hx)
        rw [kx, ux, wx, jx]
        refine ⟨r1.trans b1, fun e => ?_, fun e => r2.trans (b3 e)⟩
        obtain ⟨t, c1, c2⟩ := b2 e
        have ht := ((h.2.2.2.2.2 x t hx c1).1 e).2
        refine ⟨t, c1, ?_⟩
        show z' 11 (800 + us g x) = ii (un (cA g) (cN g + 1) a t)
        rw [un_n (by omega)]; exact r2.trans c2
  · have q2 : q ≤ cN g + 1 := q2
    by_cases c : q = cN g + 1
    · subst c
      show z' 7 (68 + (cN g + 1)) = ii (un (cA g) (cN g + 1) a (cN g + 1)) ∧ z' 8 (68 + (cN g + 1)) = ii (mm (pl g a) (un (cB g) (cN g + 1) (cS g + 1) (cN g + 1))) ∧ un (cB g) (cN g + 1) (cS g + 1) (cN g + 1) ≤ cS g + 1 ∧ 1 ≤ un (cA g) (cN g + 1) a (cN g + 1) ∧ un (cA g) (cN g + 1) a (cN g + 1) ≤ 3
      rw [un_s, un_s, mN]
      exact ⟨p7, p8, Nat.le_refl _, ha.1, ha.2⟩
    · obtain ⟨a1, a2, a3, a4⟩ := h.2.2.2.2.1 q q1 (by omega)
      obtain ⟨r7, r8⟩ := e7 q (by omega)
      show z' 7 (68 + q) = ii (un (cA g) (cN g + 1) a q) ∧ z' 8 (68 + q) = ii (mm (pl g a) (un (cB g) (cN g + 1) (cS g + 1) q)) ∧ un (cB g) (cN g + 1) (cS g + 1) q ≤ cS g + 1 ∧ 1 ≤ un (cA g) (cN g + 1) a q ∧ un (cA g) (cN g + 1) a q ≤ 3
      rw [un_n c, un_n c, mc' _ a3]
      exact ⟨r7.trans a1, r8.trans a2, by omega, a4⟩
  · by_cases q : x = cS g
    · subst q
      rw [eJ] at ht
      injection ht with ht
      rw [eK]
      exact ⟨fun _ => ⟨by omega, by show t ≤ cN g + 1; omega⟩, fun e => absurd rfl e⟩
    · have hx : x < cS g := by have : x < cS g + 1 := hx; omega
      rw [jc x hx] at ht
      rw [(kc x hx).1]
      obtain ⟨a1, a2⟩ := h.2.2.2.2.2 x t hx ht
      exact ⟨fun e => ⟨(a1 e).1, by show t ≤ cN g + 1; have := (a1 e).2; omega⟩, fun n => by show t ≤ cS g + 1; have := a2 n; omega⟩
section
variable {N L c : Nat} {b tk bg nx : Nat → Nat}
theorem mk_s (hN : 1000 ≤ N) (ht : ts b L tk bg nx c) {z z1 : ql_Z} {k : Nat} (h : mk b L tk bg nx z k) (e1 : z1.1 1 = z.1 1) (e2 : z1.1 2 = z.1 2) (e14 : z1.1 14 = z.1 14) (hk : k < c) : ∃ z', f_X11_scans N z1 = some z' ∧ fs z1 z' ∧ mk b L tk bg nx z' (k + 1) := by
  have hm : mtx z1.1 b L := by
    have := h.1
    unfold mtx at *
    rw [e1, e2]; exact this
  obtain ⟨z', a1, a2, a3, a4, a5⟩ := m_scan1 hN ht hm (by rw [e14]; exact h.2.1) hk
  exact ⟨z', a1, a2, mtx_f hm a2, a3, a4, a5⟩
def bgo (N L : Nat) (b tk bg nx : Nat → Nat) (z : ql_Z) (r : cR) : Prop :=
  (r.1 = true → ∃ z', f_X11_begins N z = some (ii 1, z') ∧ mk b L tk bg nx z' r.2.1 ∧ mz z'.1 r.2.2 ∧ z'.1 21 0 = z.1 21 0 ∧ z'.1 25 0 = z.1 25 0 ∧ ∀ f, fn z z' f) ∧
  (¬ r.1 = true → ∃ z', f_X11_begins N z = some (ii 0, z') ∧ z'.1 16 0 = ii (bg r.2.1) ∧ ∀ f, fn z z' f)
/-- skip, stop -/
theorem m_b01 (hN : 1000 ≤ N) (ht : ts b L tk bg nx c) (hk0 : te_ok tk c) {z : ql_Z} {k o d : Nat} {g : cT} (hg : gok c k g) (h : mk b L tk bg nx z k) (hz : mz z.1 g) (hu : us g (cS g) < 200) (hk : k < c) (h01 : tk k = 0 ∨ tk k = 1) : bgo N L b tk bg nx z (q1 tk (d + 1) o k g) := by
  have hc := hk0.1
  have hM : mm g (cS g) < 400 := by have := mm_le (g := g) (cS g); have := hg.1; omega
  have no : f_X11_notes N z 0 0 = some (zn z (us g (cS g)) (ii 0) (ii 0)) := m_notes hz.2.2.1 hu
  rcases h01 with e | e
  · obtain ⟨z', a1, a2, a3⟩ := mk_s hN ht (z1 := zn z (us g (cS g)) (ii 0) (ii 0)) h rfl rfl rfl hk
    rw [q1, if_pos e]
    refine ⟨fun _ => ⟨z', ?_, a3, mz_f (mz_skip hz) (fun s _ _ => a2.1 s (by omega) (by omega) (by omega)), ?_, ?_, fun f => fn_t (zn_n z _ _ _ f) (fs_n a2 f) (Nat.le_refl _)⟩, fun x => absurd rfl x⟩
    · unfold f_X11_begins f_X11_begins_0
      rw [h.2.2.1, e]
      refine sp rfl ?_
      unfold f_X11_begins_15
      refine sb no (sn (show ¬ ii (mt 0) = (3 : Int32) by decide) ?_)
      unfold f_X11_begins_34
      exact sb a1 rfl
    · rw [a2.1 21 (by decide) (by decide) (by decide)]; rfl
    · rw [a2.1 25 (by decide) (by decide) (by decide)]; rfl
  · have pu : f_X11_puts N (zn z (us g (cS g)) (ii 0) (ii 0)) 3 0 0 = some (ii (mm g (cS g)), zp (zn z (us g (cS g)) (ii 0) (ii 0)) (mm g (cS g)) (ii 3) (ii 0) (ii 0)) := m_puts hz.1 hM
    obtain ⟨z', a1, a2, a3⟩ := mk_s hN ht (z1 := zp (zn z (us g (cS g)) (ii 0) (ii 0)) (mm g (cS g)) (ii 3) (ii 0) (ii 0)) h rfl rfl rfl hk
    have mb := mz_both (k := 0) (w := 0) (d := 3) (v := ii 0) (t := ii 0) (j := none) hz (by omega) (by omega) (by omega) (fun t e => by cases e) (fun e => by omega) (fun m => Or.inl ⟨rfl, rfl, rfl, rfl⟩)
    rw [q1, if_neg (by omega), if_pos e]
    refine ⟨fun _ => ⟨z', ?_, a3, mz_f mb (fun s _ _ => a2.1 s (by omega) (by omega) (by omega)), ?_, ?_, fun f => fn_t (fn_t (zn_n z _ _ _ f) (zp_n _ _ _ _ _ f) (Nat.le_refl _)) (fs_n a2 f) (Nat.le_refl _)⟩, fun x => absurd rfl x⟩
    · unfold f_X11_begins f_X11_begins_0
      rw [h.2.2.1, e]
      refine sn (show ¬ ii (mt 1) = (2 : Int32) by decide) (sp rfl ?_)
      unfold f_X11_begins_15
      refine sb no (sp rfl (sb pu ?_))
      unfold f_X11_begins_34
      exact sb a1 rfl
    · rw [a2.1 21 (by decide) (by decide) (by decide)]; rfl
    · rw [a2.1 25 (by decide) (by decide) (by decide)]; rfl
end
