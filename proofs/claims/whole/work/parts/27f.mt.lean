/-! the reference's reading of a whole test -/
section
variable {N L c : Nat} {b tk bg nx : Nat → Nat}
/-- the reference stands at the k-th token -/
def mk (b : Nat → Nat) (L : Nat) (tk bg nx : Nat → Nat) (z : ql_Z) (k : Nat) : Prop := mtx z.1 b L ∧ z.1 14 0 = ii (nx k) ∧ z.1 15 0 = ii (mt (tk k)) ∧ z.1 16 0 = ii (bg k)
def fo (z z' : ql_Z) : Prop := (∀ s, (s < 14 ∨ 21 < s) → z'.1 s = z.1 s) ∧ z'.2 = z.2
theorem m_test (hN : 1000 ≤ N) (ht : ts b L tk bg nx c) (hk0 : te_ok tk c) {z : ql_Z} {o k : Nat} (ho : o ≤ 8) (hk : k ≤ c) (h1 : 1 ≤ k) (h : mk b L tk bg nx z k) (h21 : z.1 21 0 = ii o) :
    ((pt tk o k).1 = true → ∃ z', f_X11_test N z = some (ii (pt tk o k).2.1, z') ∧ mk b L tk bg nx z' (pt tk o k).2.2 ∧ z'.1 21 0 = ii o ∧ fo z z') ∧
    (¬ (pt tk o k).1 = true → ∃ z', f_X11_test N z = some (-ii 1, z') ∧ z'.1 16 0 = ii (bg (pt tk o k).2.2) ∧ fo z z') := by
  have hc := hk0.1
  have h' : tq b L tk bg nx (ql_up (ql_up z.1 19 (fun _ => 0)) 20 (fun _ => 0), z.2) k 0 0 o := ⟨h.1, h.2.1, h.2.2.1, h.2.2.2, rfl, rfl, h21⟩
  obtain ⟨g1, g2⟩ := m_T (N := N) hN ht hk0 (vb := 0) (wb := 0) (m_one hN ht hk0 10 o ho (by omega)) (fun k hk => p1_ro hk0 10 o k hk) 300 0 15 k _ 0 N (by omega) hk h' (Or.inl ⟨rfl, rfl, rfl⟩) (Or.inl rfl) (by omega) (by omega) (by omega) (by omega) (by omega)
  have fz : ∀ (z' : ql_Z) v w, ft (ql_up (ql_up z.1 19 (fun _ => 0)) 20 (fun _ => 0), z.2) z' v w → fo z z' := fun z' v w f => ⟨fun s hs => (f.1 s hs).trans ((up_ne (S := ql_up z.1 19 (fun _ => 0)) (k := 20) (by omega)).trans (up_ne (by omega))), f.2.1⟩
  unfold f_X11_test f_X11_test_0 pt
  refine ⟨fun hr => ?_, fun hr => ?_⟩
  · obtain ⟨z', m', n, any, both, x, a1, a2, a3, a4, a5, a6, a7, a8, a9, a10, a11, a12, a13, a14, a15⟩ := g1 hr
    generalize hr' : pT tk (p1 tk 10) o 300 0 15 k = r at a2 a3 a10 a11 a12 a14 a15 hr ⊢
    have r2 : r.2.2 ≤ c := by rw [← hr']; exact (pt_ro hk0 hk).2.1
    have h25' := hk0.2.2 r.2.2
    have mq' : ∀ s, 2 ≤ s → s ≤ 24 → (ii (mt (tk r.2.2)) = ii s ↔ tk r.2.2 = s - 2) := fun s b1 b2 => mt_eq h25' b1 b2
    have n21 : ¬ ii (mt (tk r.2.2)) = (21 : Int32) := fun y => a11 ((mq' 21 (by omega) (by omega)).mp y)
    have n20 : ¬ ii (mt (tk r.2.2)) = (20 : Int32) := fun y => a12 ((mq' 20 (by omega) (by omega)).mp y)
    obtain ⟨m3, rfl⟩ : ∃ j, m' = j + 1 := ⟨m' - 1, by omega⟩
    have ne : ∀ y, y < 100 → y ≠ 23 → ii y ≠ ii 23 := fun y h1 h2 x => h2 ((ii_eq (by omega) (by omega)).mp x)
    have no23 : ∀ q, q < 0 + n → z'.1 18 q ≠ ii 23 := fun q hq => by
      rcases a4 with ⟨rfl, _⟩ | ⟨rfl, _, _, h3⟩ | ⟨rfl, _, _, h3⟩ | ⟨rfl, _, _, h3, h4⟩
      · omega
      · obtain rfl : q = 0 := by omega
        rw [h3]; exact ne 21 (by omega) (by omega)
      · obtain rfl : q = 0 := by omega
        rw [h3]; exact ne 20 (by omega) (by omega)
      · rcases (show q = 0 ∨ q = 1 by omega) with rfl | rfl
        · rw [h3]; exact ne 20 (by omega) (by omega)
        · have h4 : z'.1 18 1 = ii 21 := h4
          rw [h4]; exact ne 21 (by omega) (by omega)
    have inn := (m_inner (N := N) hN a3 (by omega)).2 no23
    obtain ⟨z2, e2, t2, v2, w2, f2⟩ := m_coll (N := N) (m := N) a3 (by omega) (by omega) a4 a5 a6 a7 a8 a9 (by omega)
    have e257 : f_X11_test_257 N z' = some (ii r.2.1, z2) := by
      unfold f_X11_test_257 f_X11_works
      refine sb inn (sp rfl (sb e2 ?_))
      rw [v2, a10]
    refine ⟨z2, ?_, ⟨t2.1, t2.2.1, t2.2.2.1, t2.2.2.2.1⟩, t2.2.2.2.2.2.2, fz z2 0 0 (ft_t a13 f2 (Nat.le_refl _) (Nat.le_refl _))⟩
    refine Eq.trans a1 ?_
    rw [f_X11_test_12, a3.2.2.1]
    refine sp rfl (sn n21 (sn n20 ?_))
    by_cases q2 : ii (mt (tk r.2.2)) = (24 : Int32)
    · exact sp q2 (sb inn (sp rfl e257))
    · exact sn q2 e257
  · obtain ⟨z', a1, a2, a3⟩ := g2 hr
    exact ⟨z', a1, a2, fz z' 0 0 a3⟩
end
