/-! the reference reads a program -/
def g0 : cT := (fun _ => 0, fun _ => 0, fun _ => none, 0, 0, fun _ => 0, fun _ => 0)
def qP (tk : Nat → Nat) : cR := qs tk (q1 tk 10) 0 0 g0
section
variable {N L c : Nat} {b tk bg nx : Nat → Nat}
theorem gok0 : gok c 0 g0 := ⟨Nat.le_refl _, by show 0 ≤ 16; omega, Nat.zero_le _⟩
theorem qP_rq (hk0 : te_ok tk c) : rq c 0 g0 (qP tk) := qs_rq hk0 (fun k g hg => q1_rq hk0 10 0 k g hg) gok0
theorem qP_kq (hk0 : te_ok tk c) : kq 0 g0 (qP tk) := qs_kq hk0 (fun k g hg => q1_rq hk0 10 0 k g hg) (fun k g hg => q1_kq hk0 10 0 k g hg) gok0
theorem m_reads (hN : 1000 ≤ N) (ht : ts b L tk bg nx c) (hk0 : te_ok tk c) {z : ql_Z} (h : mtx z.1 b L) :
    ((qP tk).1 = true ∧ tk (qP tk).2.1 = 23 → ∃ z1, f_X11_reads N z = some (ii 1, zp z1 (mm (qP tk).2.2 (cS (qP tk).2.2)) (ii 4) (ii 0) (ii 0)) ∧ mz z1.1 (qP tk).2.2 ∧ fn z z1 0) ∧
    (¬ ((qP tk).1 = true ∧ tk (qP tk).2.1 = 23) → ∃ z1, f_X11_reads N z = some (ii 0, z1) ∧ z1.1 16 0 = ii (bg (qP tk).2.1) ∧ fn z z1 0) := by
  have hc := hk0.1
  let za : ql_Z := (ql_up (ql_up (ql_up (ql_up (ql_up (ql_up z.1 6 (upd (z.1 6) 4 0)) 9 (upd (z.1 9) 4 0)) 12 (upd (z.1 12) 4 0)) 14 (fun _ => 0)) 21 (fun _ => 0)) 25 (fun _ => 0), z.2)
  have ha : mtx za.1 b L := h
  obtain ⟨z1, s, e, t, a1, a2, a3, a4, a5, a6⟩ := m_scans (N := N) hN ha (p := 0) rfl (Nat.zero_le _)
  have l := ht.1 0 (Nat.zero_le _)
  rw [if_pos rfl] at l
  obtain ⟨u1, u2, u3⟩ := lx_u a3 l
  subst u1; subst u2; subst u3
  have mk1 : mk b L tk bg nx z1 0 := ⟨mtx_f ha a2, a4, a5, a6⟩
  have mza : mz za.1 g0 := by
    refine ⟨?_, ?_, ?_, fun x hx => absurd hx (Nat.not_lt_zero x), fun q q1 q2 => ?_, fun x t hx => absurd hx (Nat.not_lt_zero x)⟩
    · show upd (z.1 6) 4 0 4 = _
      rw [ud_same]; rfl
    · show upd (z.1 9) 4 0 4 = _
      rw [ud_same]; rfl
    · show upd (z.1 12) 4 0 4 = _
      rw [ud_same]; rfl
    · have q2 : q ≤ 0 := q2
      omega
  have mz1 : mz z1.1 g0 := mz_f mza (fun s _ _ => a2.1 s (by omega) (by omega) (by omega))
  have fa : fn z za 0 := ⟨rfl, rfl, rfl, fun _ _ => rfl, fun _ _ => ⟨rfl, rfl⟩, fun q hq => ⟨by
    show upd (z.1 9) 4 0 q = _
    rw [ud_ne hq], by
    show upd (z.1 12) 4 0 q = _
    rw [ud_ne hq]⟩, rfl, fun q hq => by omega⟩
  have f1 : fn z z1 0 := fn_t fa (fs_n a2 0) (Nat.le_refl _)
  have p1 : pre L c b tk bg nx z1 0 0 g0 := ⟨gok0, mk1, mz1, by rw [a2.1 21 (by decide) (by decide) (by decide)]; rfl, by rw [a2.1 25 (by decide) (by decide) (by decide)]; rfl⟩
  have rqs := fun k g hg => q1_rq (tk := tk) hk0 10 0 k g hg
  have go : mgo N L b tk bg nx z1 N 0 0 (qP tk) (ii 1) := m_qs hN ht hk0 rqs (fun k g hg => q1_kq hk0 10 0 k g hg) (m_q1 hN ht hk0 10 0 (by omega) (by omega)) p1 (Nat.le_refl _) (by omega)
  have en : (qP tk).1 = true → tk (qP tk).2.1 ≠ 17 := qs_e hk0 rqs gok0
  have hrq := qP_rq hk0
  have st : f_X11_reads N z = f_X11_reads_42 N N z1 (ii 1) := by
    unfold f_X11_reads f_X11_reads_0
    exact sb a1 rfl
  generalize qP tk = r at *
  by_cases q : r.1 = true
  · obtain ⟨z2, m2, d1, d2, d3, d4, d5, d6, d7⟩ := go.1 q
    have g1 := (hrq.2.2 q).2.1
    have g2 := g1.2.2
    obtain ⟨m2, rfl⟩ : ∃ j, m2 = j + 1 := ⟨m2 - 1, by omega⟩
    refine ⟨fun x => ⟨z2, ?_, d4, fn_t f1 d7 (Nat.le_refl _)⟩, fun x => ⟨z2, ?_, d3.2.2.2, fn_t f1 d7 (Nat.le_refl _)⟩⟩
    · have pu : f_X11_puts N z2 4 0 0 = some (ii (mm r.2.2 (cS r.2.2)), zp z2 (mm r.2.2 (cS r.2.2)) (ii 4) (ii 0) (ii 0)) := m_puts d4.1 (mm400 hk0 g1)
      refine st.trans (d1.trans ?_)
      rw [f_X11_reads_42, d3.2.2.1, x.2, d6]
      exact sn (show ¬ ii 2 = (1 : Int32) by decide) (sp rfl (sp rfl (sb pu rfl)))
    · have n23 : tk r.2.1 ≠ 23 := fun y => x ⟨q, y⟩
      exact st.trans (d1.trans (rd2f (N := N) (n := m2) hk0 d3 (fun y => absurd y n23) (m_fno0 hk0 d3 d6 (en q))))
  · obtain ⟨z2, d1, d2, d3⟩ := go.2 q
    exact ⟨fun x => absurd x.1 q, fun _ => ⟨z2, st.trans d1, d2, fn_t f1 d3 (Nat.le_refl _)⟩⟩
end
