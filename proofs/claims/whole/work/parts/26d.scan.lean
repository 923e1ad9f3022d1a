/-! tokens, one after the other: the reference's scans, the class's scan -/
def blk (b : Nat → Nat) (L p q : Nat) : Prop := p ≤ q ∧ q ≤ L ∧ (∀ x, p ≤ x → x < q → b x = 32) ∧ (q = L ∨ b q ≠ 32)
def wrd (b : Nat → Nat) (L p q : Nat) : Prop := p ≤ q ∧ q ≤ L ∧ (∀ x, p ≤ x → x < q → isl (b x)) ∧ (q = L ∨ ¬ isl (b q))
/-- from p on: the token t from s to e -/
def lx (b : Nat → Nat) (L p s e t : Nat) : Prop := blk b L p s ∧ ((s = L ∧ e = L ∧ t = 23) ∨ (s < L ∧ ¬ isl (b s) ∧ e = s + 1 ∧ t = sg (b s)) ∨ (s < L ∧ isl (b s) ∧ wrd b L (s + 1) e ∧ t = wk5 b s e))
theorem blk_u {b : Nat → Nat} {L p q q' : Nat} (h : blk b L p q) (h' : blk b L p q') : q = q' := by
  rcases Nat.lt_trichotomy q q' with c | c | c
  · rcases h.2.2.2 with e | e
    · have := h'.2.1; omega
    · exact absurd (h'.2.2.1 q h.1 c) e
  · exact c
  · rcases h'.2.2.2 with e | e
    · have := h.2.1; omega
    · exact absurd (h.2.2.1 q' h'.1 c) e
theorem wrd_u {b : Nat → Nat} {L p q q' : Nat} (h : wrd b L p q) (h' : wrd b L p q') : q = q' := by
  rcases Nat.lt_trichotomy q q' with c | c | c
  · rcases h.2.2.2 with e | e
    · have := h'.2.1; omega
    · exact absurd (h'.2.2.1 q h.1 c) e
  · exact c
  · rcases h'.2.2.2 with e | e
    · have := h.2.1; omega
    · exact absurd (h.2.2.1 q' h'.1 c) e
theorem lx_u {b : Nat → Nat} {L p s e t s' e' t' : Nat} (h : lx b L p s e t) (h' : lx b L p s' e' t') : s = s' ∧ e = e' ∧ t = t' := by
  obtain ⟨b1, c1⟩ := h
  obtain ⟨b2, c2⟩ := h'
  have es := blk_u b1 b2
  subst es
  rcases c1 with ⟨x1, x2, x3⟩ | ⟨x1, x2, x3, x4⟩ | ⟨x1, x2, x3, x4⟩
  · rcases c2 with ⟨y1, y2, y3⟩ | ⟨y1, y2, y3, y4⟩ | ⟨y1, y2, y3, y4⟩
    · exact ⟨rfl, by omega, by omega⟩
    · omega
    · omega
  · rcases c2 with ⟨y1, y2, y3⟩ | ⟨y1, y2, y3, y4⟩ | ⟨y1, y2, y3, y4⟩
    · omega
    · exact ⟨rfl, by omega, by rw [x4, y4]⟩
    · exact absurd y2 x2
  · rcases c2 with ⟨y1, y2, y3⟩ | ⟨y1, y2, y3, y4⟩ | ⟨y1, y2, y3, y4⟩
    · omega
    · exact absurd x2 y2
    · have ee := wrd_u x3 y3
      subst ee
      exact ⟨rfl, rfl, by rw [x4, y4]⟩
def fs (z z' : ql_Z) : Prop := (∀ s, s ≠ 14 → s ≠ 15 → s ≠ 16 → z'.1 s = z.1 s) ∧ z'.2 = z.2
/-- the text on the reference's side -/
def mtx (z : ql_St) (b : Nat → Nat) (L : Nat) : Prop := L ≤ 300 ∧ z 2 0 = ii L ∧ ∀ j, j < L → b j < 256 ∧ z 1 j = ii (b j)
section
variable {N L : Nat} {b : Nat → Nat}
theorem mtx_f {z z' : ql_Z} (h : mtx z.1 b L) (f : fs z z') : mtx z'.1 b L := by
  unfold mtx at *
  rw [f.1 1 (by decide) (by decide) (by decide), f.1 2 (by decide) (by decide) (by decide)]; exact h
theorem fs_t {z z' z'' : ql_Z} (h : fs z z') (h' : fs z' z'') : fs z z'' := ⟨fun s a b c => (h'.1 s a b c).trans (h.1 s a b c), h'.2.trans h.2⟩
theorem fs_r (z : ql_Z) : fs z z := ⟨fun _ _ _ _ => rfl, rfl⟩
theorem m_sc105 (hN : 1000 ≤ N) (z0 : ql_Z) (h : mtx z0.1 b L) {s : Nat} (hs : s < L) (hi : isl (b s)) : ∀ d p m z, p + d = L → d + 1 ≤ m → fs z0 z → z.1 14 0 = ii p → z.1 16 0 = ii s → s ≤ p → (∀ x, s ≤ x → x < p → isl (b x)) →
    ∃ z' e, f_X11_scans_105 N m z = some z' ∧ fs z0 z' ∧ z'.1 14 0 = ii e ∧ z'.1 16 0 = ii s ∧ z'.1 15 0 = ii (mt (wk5 b s e)) ∧ p ≤ e ∧ e ≤ L ∧ (∀ x, s ≤ x → x < e → isl (b x)) ∧ (e = L ∨ ¬ isl (b e)) := by
  have hL := h.1
  have fin : ∀ p z, fs z0 z → z.1 14 0 = ii p → z.1 16 0 = ii s → s < p → p ≤ L → (∀ x, s ≤ x → x < p → isl (b x)) → ∃ z', f_X11_scans_144 N z = some z' ∧ fs z0 z' ∧ z'.1 14 0 = ii p ∧ z'.1 16 0 = ii s ∧ z'.1 15 0 = ii (mt (wk5 b s p)) := fun p z hf h14 h16 hp hpL hl => by
    have hz := mtx_f h hf
    have w := m_wordOf (N := N) (z := z) (b := b) (L := L) (s := s) (n := p - s) hN (fun j hj => (hz.2.2 j hj).2) hL h16 (by omega) (by omega) (fun j hj => hl _ (by omega) (by omega))
    rw [show s + (p - s) = p by omega] at w
    refine ⟨(ql_up z.1 15 (fun _ => ii (mt (wk5 b s p))), z.2), ?_, ⟨fun x a b c => (up_ne (S := z.1) (k := 15) b).trans (hf.1 x a b c), hf.2⟩, h14, h16, rfl⟩
    unfold f_X11_scans_144
    rw [h14, h16, ii_sub (by omega), w]; rfl
  intro d
  induction d with
  | zero =>
    intro p m z hp hm hf h14 h16 hsp hl
    obtain ⟨m, rfl⟩ : ∃ j, m = j + 1 := ⟨m - 1, by omega⟩
    obtain ⟨z', e1, e2, e3, e4, e5⟩ := fin p z hf h14 h16 (by omega) (by omega) hl
    refine ⟨z', p, ?_, e2, e3, e4, e5, Nat.le_refl _, by omega, hl, Or.inl (by omega)⟩
    rw [f_X11_scans_105, (mtx_f h hf).2.1, h14]
    exact sp (le_y p (by omega) (by omega)) e1
  | succ d ih =>
    intro p m z hp hm hf h14 h16 hsp hl
    obtain ⟨m, rfl⟩ : ∃ j, m = j + 1 := ⟨m - 1, by omega⟩
    have hz := mtx_f h hf
    obtain ⟨hb, ht⟩ := hz.2.2 p (by omega)
    obtain ⟨l1, l2⟩ := m_let (N := N) hb
    rw [f_X11_scans_105, hz.2.1, h14, ii_nat (by omega), ht, lk_1, ii_add]
    by_cases q : isl (b p)
    · obtain ⟨z', e, e1, e2, e3, e4, e5, e6, e7, e8, e9⟩ := ih (p + 1) m (ql_up z.1 14 (fun _ => ii (p + 1)), z.2) (by omega) (by omega) ⟨fun x a b c => (up_ne (S := z.1) (k := 14) a).trans (hf.1 x a b c), hf.2⟩ rfl h16 (by omega) (fun x h1 h2 => by
        by_cases e : x = p
        · subst e; exact q
        · exact hl x h1 (by omega))
      refine ⟨z', e, ?_, e2, e3, e4, e5, by omega, e7, e8, e9⟩
      exact sn (le_n (a := L) p (by omega) (by omega)) (sp (ii_ib (by omega) (by omega)) (sb (l1 q) (sn n10 e1)))
    · have hne : s ≠ p := fun e => q (e ▸ hi)
      obtain ⟨z', e1, e2, e3, e4, e5⟩ := fin p z hf h14 h16 (by omega) (by omega) hl
      refine ⟨z', p, ?_, e2, e3, e4, e5, Nat.le_refl _, by omega, hl, Or.inr q⟩
      exact sn (le_n (a := L) p (by omega) (by omega)) (sp (ii_ib (by omega) (by omega)) (sb (l2 q) (sp rfl e1)))
theorem m_sc38 (hN : 1000 ≤ N) {z : ql_Z} {p q : Nat} (h : mtx z.1 b L) (h14 : z.1 14 0 = ii q) (hb : blk b L p q) : ∃ z' s e t, f_X11_scans_38 N z = some z' ∧ fs z z' ∧ lx b L p s e t ∧ z'.1 14 0 = ii e ∧ z'.1 15 0 = ii (mt t) ∧ z'.1 16 0 = ii s := by
  have hL := h.1
  have hqL := hb.2.1
  unfold f_X11_scans_38
  rw [h14, h.2.1]
  by_cases c : q = L
  · refine ⟨(ql_up (ql_up z.1 15 (fun _ => 0)) 16 (fun _ => ii q), z.2), q, L, 23, ?_, ⟨fun x a b c => (up_ne (S := ql_up z.1 15 (fun _ => 0)) (k := 16) c).trans (up_ne b), rfl⟩, ⟨hb, Or.inl ⟨c, rfl, rfl⟩⟩, ?_, rfl, rfl⟩
    · exact sp (by rw [c]) rfl
    · show z.1 14 0 = ii L
      rw [h14, c]
  · have hq : q < L := by omega
    obtain ⟨hb8, ht⟩ := h.2.2 q hq
    obtain ⟨l1, l2⟩ := m_let (N := N) hb8
    have ne : ¬ ii q = ii L := fun x => c ((ii_eq (by omega) (by omega)).mp x)
    rw [ii_nat (by omega), ht]
    by_cases i : isl (b q)
    · obtain ⟨z', e, e1, e2, e3, e4, e5, e6, e7, e8, e9⟩ := m_sc105 (N := N) (s := q) hN (ql_up z.1 16 (fun _ => ii q), z.2) h hq i (L - q) q N (ql_up z.1 16 (fun _ => ii q), z.2) (by omega) (by omega) (fs_r _) h14 rfl (Nat.le_refl _) (fun x h1 h2 => by omega)
      have hqe : q < e := by
        rcases e9 with e9 | e9
        · omega
        · have : q ≠ e := fun x => e9 (x ▸ i)
          omega
      refine ⟨z', q, e, wk5 b q e, ?_, fs_t (z' := (ql_up z.1 16 (fun _ => ii q), z.2)) ⟨fun x _ _ c1 => up_ne (S := z.1) (k := 16) c1, rfl⟩ e2, ⟨hb, Or.inr (Or.inr ⟨hq, i, ⟨by omega, e7, fun x h1 h2 => e8 x (by omega) h2, e9⟩, rfl⟩)⟩, e3, e5, e4⟩
      exact sn ne (sp (ii_ib (by omega) (by omega)) (sb (l1 i) (sn n10 e1)))
    · refine ⟨(ql_up (ql_up (ql_up z.1 14 (fun _ => ii (q + 1))) 15 (fun _ => ii (mt (sg (b q))))) 16 (fun _ => ii q), z.2), q, q + 1, sg (b q), ?_, ⟨fun x a1 b1 c1 => ((up_ne (S := ql_up (ql_up z.1 14 (fun _ => ii (q + 1))) 15 (fun _ => ii (mt (sg (b q))))) (k := 16) c1).trans (up_ne b1)).trans (up_ne a1), rfl⟩, ⟨hb, Or.inr (Or.inl ⟨hq, i, rfl, rfl⟩)⟩, rfl, rfl, rfl⟩
      rw [lk_1, ii_add]
      exact sn ne (sp (ii_ib (by omega) (by omega)) (sb (l2 i) (sp rfl (sp (ii_ib (by omega) (by omega)) (sb (m_sign hb8) rfl)))))
theorem m_sc0 (hN : 1000 ≤ N) (z0 : ql_Z) (h : mtx z0.1 b L) {p0 : Nat} : ∀ d p m z, p + d = L → d + 1 ≤ m → fs z0 z → z.1 14 0 = ii p → p0 ≤ p → (∀ x, p0 ≤ x → x < p → b x = 32) →
    ∃ z' s e t, f_X11_scans_0 N m z = some z' ∧ fs z0 z' ∧ lx b L p0 s e t ∧ z'.1 14 0 = ii e ∧ z'.1 15 0 = ii (mt t) ∧ z'.1 16 0 = ii s := by
  have hL := h.1
  have fin : ∀ p z, fs z0 z → z.1 14 0 = ii p → blk b L p0 p → ∃ z' s e t, f_X11_scans_38 N z = some z' ∧ fs z0 z' ∧ lx b L p0 s e t ∧ z'.1 14 0 = ii e ∧ z'.1 15 0 = ii (mt t) ∧ z'.1 16 0 = ii s := fun p z hf h14 hb => by
    obtain ⟨z', s, e, t, a1, a2, a3⟩ := m_sc38 hN (mtx_f h hf) h14 hb
    exact ⟨z', s, e, t, a1, fs_t hf a2, a3⟩
  intro d
  induction d with
  | zero =>
    intro p m z hp hm hf h14 h0 hb
    obtain ⟨m, rfl⟩ : ∃ j, m = j + 1 := ⟨m - 1, by omega⟩
    obtain ⟨z', s, e, t, a1, a2⟩ := fin p z hf h14 ⟨h0, by omega, hb, Or.inl (by omega)⟩
    refine ⟨z', s, e, t, ?_, a2⟩
    rw [f_X11_scans_0, (mtx_f h hf).2.1, h14]
    exact sp (le_y p (by omega) (by omega)) a1
  | succ d ih =>
    intro p m z hp hm hf h14 h0 hb
    obtain ⟨m, rfl⟩ : ∃ j, m = j + 1 := ⟨m - 1, by omega⟩
    have hz := mtx_f h hf
    obtain ⟨hb8, ht⟩ := hz.2.2 p (by omega)
    rw [f_X11_scans_0, hz.2.1, h14, ii_nat (by omega), ht, lk_1, ii_add, lk_32]
    have e32 : ii (b p) = ii 32 ↔ b p = 32 := ii_eq (by omega) (by omega)
    by_cases q : b p = 32
    · obtain ⟨z', s, e, t, a1, a2⟩ := ih (p + 1) m (ql_up z.1 14 (fun _ => ii (p + 1)), z.2) (by omega) (by omega) ⟨fun x a1 b1 c1 => (up_ne (S := z.1) (k := 14) a1).trans (hf.1 x a1 b1 c1), hf.2⟩ rfl (by omega) (fun x h1 h2 => by
        by_cases e : x = p
        · subst e; exact q
        · exact hb x h1 (by omega))
      exact ⟨z', s, e, t, sn (le_n (a := L) p (by omega) (by omega)) (sp (ii_ib (by omega) (by omega)) (sp (e32.mpr q) a1)), a2⟩
    · obtain ⟨z', s, e, t, a1, a2⟩ := fin p z hf h14 ⟨h0, by omega, hb, Or.inr q⟩
      exact ⟨z', s, e, t, sn (le_n (a := L) p (by omega) (by omega)) (sp (ii_ib (by omega) (by omega)) (sn (fun x => q (e32.mp x)) a1)), a2⟩
theorem m_scans (hN : 1000 ≤ N) {z : ql_Z} {p : Nat} (h : mtx z.1 b L) (h14 : z.1 14 0 = ii p) (hp : p ≤ L) : ∃ z' s e t, f_X11_scans N z = some z' ∧ fs z z' ∧ lx b L p s e t ∧ z'.1 14 0 = ii e ∧ z'.1 15 0 = ii (mt t) ∧ z'.1 16 0 = ii s := by
  have hL := h.1
  unfold f_X11_scans
  exact m_sc0 hN z h (L - p) p N z (by omega) (by omega) (fs_r z) h14 (Nat.le_refl _) (fun x h1 h2 => by omega)
end
