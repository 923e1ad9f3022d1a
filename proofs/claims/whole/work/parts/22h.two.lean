/-! alike, apart, far, within -/
def fr (z z' : ql_Z) : Prop := (∀ s, s < 26 → z'.1 s = z.1 s) ∧ z'.2 0 = z.2 0
def fc (v v' : ql_V) : Prop := v'.1 0 = v.1 0 ∧ v'.1 1 = v.1 1 ∧ v'.2.1 100 = v.2.1 100
theorem fr_r (z : ql_Z) : fr z z := ⟨fun _ _ => rfl, rfl⟩
theorem fc_r (v : ql_V) : fc v v := ⟨rfl, rfl, rfl⟩
theorem ap_cases (N : Nat) (x1 x2 : Int32) : (∃ i j, i < 4 ∧ j < 4 ∧ x1 = ii i ∧ x2 = ii j ∧ f_X10_isProgram N x1 = some (ii 1) ∧ f_X10_isProgram N x2 = some (ii 1) ∧ f_X11_arePrograms N x1 x2 = some (ii 1)) ∨
    ((f_X10_isProgram N x1 = some (ii 0) ∨ (f_X10_isProgram N x1 = some (ii 1) ∧ f_X10_isProgram N x2 = some (ii 0))) ∧ f_X11_arePrograms N x1 x2 = some (ii 0)) := by
  unfold f_X11_arePrograms f_X11_arePrograms_0
  rcases ip_cases N x1 with ⟨i, hi, e1, c1, m1⟩ | ⟨c1, m1⟩
  · rcases ip_cases N x2 with ⟨j, hj, e2, c2, m2⟩ | ⟨c2, m2⟩
    · exact Or.inl ⟨i, j, hi, hj, e1, e2, c1, c2, sb m1 (sn n10 (sb m2 (sn n10 rfl)))⟩
    · exact Or.inr ⟨Or.inr ⟨c1, c2⟩, sb m1 (sn n10 (sb m2 (sp rfl rfl)))⟩
  · exact Or.inr ⟨Or.inl c1, sb m1 (sp rfl rfl)⟩
theorem zk {k : Nat} (h : k < 2147483648) : ii 0 ≤ ii k := (ii_le (by omega) h).mpr (Nat.zero_le _)
section
variable {N : Nat} {P : Nat → ql_St} {v : ql_V} {z : ql_Z}
theorem e_two (hN : 1000 ≤ N) (R : pga P z.1) {i j : Nat} (hi : i < 4) (hj : j < 4) (w : Bool) (zp : ql_Z) :
    ∃ rc zc rm zm, f_X4_findRow N P zp i j (wf w) = some (rc, zc) ∧ f_X11_parts N z (ii i) (ii j) (mf w) = some (rm, zm) ∧ fr z zm ∧
      ((rc = ii 0 ∧ rm = -ii 1) ∨ (rc = ii 1 ∧ ∃ ini st q lv nm dg c k, mi 4 ini st z zm q lv nm dg c k 0 ∧ k < c ∧ rm = ii k ∧ zc.1 6 0 = ii (lv k) ∧ zc.2 7 0 = ll (nm k))) := by
  obtain ⟨n1, T1, A1, ok1, h61, hT1, hA1, _, _, h91, mT1, mA1⟩ := R i hi
  obtain ⟨n2, T2, A2, ok2, h62, hT2, hA2, _, _, h92, mT2, mA2⟩ := R j hj
  obtain ⟨rc, zc, f1, g1⟩ := c_findRow (N := N) (w := w) (z := zp) hN (p1 := (⟨ok1, hT1, hA1⟩ : cp (P i) n1 T1 A1)) (p2 := (⟨ok2, hT2, hA2⟩ : cp (P j) n2 T2 A2))
  obtain ⟨rm, zm, f2, fz, g2⟩ := m_parts (N := N) (w := w) (z := z) hN (p1 := (⟨ok1, mT1, mA1⟩ : mp z i n1 T1 A1)) (p2 := (⟨ok2, mT2, mA2⟩ : mp z j n2 T2 A2)) hi hj
  refine ⟨rc, zc, rm, zm, f1, f2, ⟨fz.1, by rw [fz.2]⟩, ?_⟩
  rcases g1 with ⟨e1, s1⟩ | ⟨e1, n, x, s1, a1, a2⟩
  · rcases g2 with ⟨e2, s2⟩ | ⟨q, lv, nm, dg, c, k, h, hk, e2, s2⟩
    · exact Or.inl ⟨e1, e2⟩
    · exact (sp_c s2 s1).elim
  · rcases g2 with ⟨e2, s2⟩ | ⟨q, lv, nm, dg, c, k, h, hk, e2, s2⟩
    · exact (sp_c s1 s2).elim
    · obtain ⟨u1, u2⟩ := sp_u s1 s2
      exact Or.inr ⟨e1, _, _, q, lv, nm, dg, c, k, h, hk, e2, by rw [a1, u1], by rw [a2, u2]⟩
theorem e_alike (hN : 1000 ≤ N) (R : pga P z.1) (x1 x2 : Int32) : ∃ r v' z', f_X10_alike N P v x1 x2 = some (r, v') ∧ f_X11_alike N z x1 x2 = some (r, z') ∧ fc v v' ∧ fr z z' := by
  unfold f_X10_alike f_X10_alike_0 f_X11_alike f_X11_alike_0
  rcases ap_cases N x1 x2 with ⟨i, j, hi, hj, rfl, rfl, c1, c2, m⟩ | ⟨c, m⟩
  · obtain ⟨rc, zc, rm, zm, f1, f2, ff, g⟩ := e_two hN R hi hj true (v.2.2.2.2.1, v.2.2.2.2.2)
    have t1 : (ii i).toNatClampNeg = i := ii_nat (by omega)
    have t2 : (ii j).toNatClampNeg = j := ii_nat (by omega)
    rw [t1, t2]
    rcases g with ⟨rfl, rfl⟩ | ⟨rfl, ini, st, q, lv, nm, dg, c, k, h, hk, rfl, a1, a2⟩
    · refine ⟨ii 1, (v.1, v.2.1, v.2.2.1, v.2.2.2.1, zc.1, zc.2), zm, sb c1 (sn n10 (sb c2 (sn n10 (sp (ii_ib (by omega) (by omega)) (sp (ii_ib (by omega) (by omega)) (sb f1 (sp rfl rfl))))))), sb m (sn n10 (sb f2 (sn (fun x => ?_) rfl))), ⟨rfl, rfl, rfl⟩, ff⟩
      have := (ii_le_ni (show 1 < 2147483648 by omega) (show 0 < 2147483648 by omega)).mp x
      omega
    · have hc := bi_c h.2.2.2.2.2
      exact ⟨ii 0, (v.1, v.2.1, v.2.2.1, v.2.2.2.1, zc.1, zc.2), zm, sb c1 (sn n10 (sb c2 (sn n10 (sp (ii_ib (by omega) (by omega)) (sp (ii_ib (by omega) (by omega)) (sb f1 (sn n10 rfl))))))), sb m (sn n10 (sb f2 (sp (zk (by omega)) rfl))), ⟨rfl, rfl, rfl⟩, ff⟩
  · refine ⟨-ii 1, v, z, ?_, sb m (sp rfl rfl), fc_r v, fr_r z⟩
    rcases c with c | ⟨c, c'⟩
    · exact sb c (sp rfl rfl)
    · exact sb c (sn n10 (sb c' (sp rfl rfl)))
theorem e_within (hN : 1000 ≤ N) (R : pga P z.1) (x1 x2 : Int32) : ∃ r v' z', f_X10_within N P v x1 x2 = some (r, v') ∧ f_X11_within N z x1 x2 = some (r, z') ∧ fc v v' ∧ fr z z' := by
  unfold f_X10_within f_X10_within_0 f_X11_within f_X11_within_0
  rcases ap_cases N x1 x2 with ⟨i, j, hi, hj, rfl, rfl, c1, c2, m⟩ | ⟨c, m⟩
  · obtain ⟨rc, zc, rm, zm, f1, f2, ff, g⟩ := e_two hN R hi hj false (v.2.2.2.2.1, v.2.2.2.2.2)
    have t1 : (ii i).toNatClampNeg = i := ii_nat (by omega)
    have t2 : (ii j).toNatClampNeg = j := ii_nat (by omega)
    rw [t1, t2]
    rcases g with ⟨rfl, rfl⟩ | ⟨rfl, ini, st, q, lv, nm, dg, c, k, h, hk, rfl, a1, a2⟩
    · refine ⟨ii 1, (v.1, v.2.1, v.2.2.1, v.2.2.2.1, zc.1, zc.2), zm, sb c1 (sn n10 (sb c2 (sn n10 (sp (ii_ib (by omega) (by omega)) (sp (ii_ib (by omega) (by omega)) (sb f1 (sp rfl rfl))))))), sb m (sn n10 (sb f2 (sn (fun x => ?_) rfl))), ⟨rfl, rfl, rfl⟩, ff⟩
      have := (ii_le_ni (show 1 < 2147483648 by omega) (show 0 < 2147483648 by omega)).mp x
      omega
    · have hc := bi_c h.2.2.2.2.2
      exact ⟨ii 0, (v.1, v.2.1, v.2.2.1, v.2.2.2.1, zc.1, zc.2), zm, sb c1 (sn n10 (sb c2 (sn n10 (sp (ii_ib (by omega) (by omega)) (sp (ii_ib (by omega) (by omega)) (sb f1 (sn n10 rfl))))))), sb m (sn n10 (sb f2 (sp (zk (by omega)) rfl))), ⟨rfl, rfl, rfl⟩, ff⟩
  · refine ⟨-ii 1, v, z, ?_, sb m (sp rfl rfl), fc_r v, fr_r z⟩
    rcases c with c | ⟨c, c'⟩
    · exact sb c (sp rfl rfl)
    · exact sb c (sn n10 (sb c' (sp rfl rfl)))
theorem e_far (hN : 1000 ≤ N) (R : pga P z.1) (x1 x2 : Int32) : ∃ r v' z', f_X10_far N P v x1 x2 = some (r, v') ∧ f_X11_far N z x1 x2 = some (r, z') ∧ fc v v' ∧ fr z z' := by
  unfold f_X10_far f_X10_far_0 f_X11_far f_X11_far_0
  rcases ap_cases N x1 x2 with ⟨i, j, hi, hj, rfl, rfl, c1, c2, m⟩ | ⟨c, m⟩
  · obtain ⟨rc, zc, rm, zm, f1, f2, ff, g⟩ := e_two hN R hi hj true (v.2.2.2.2.1, v.2.2.2.2.2)
    have t1 : (ii i).toNatClampNeg = i := ii_nat (by omega)
    have t2 : (ii j).toNatClampNeg = j := ii_nat (by omega)
    rw [t1, t2]
    rcases g with ⟨rfl, rfl⟩ | ⟨rfl, ini, st, q, lv, nm, dg, c, k, h, hk, rfl, a1, a2⟩
    · refine ⟨-ii 9, (v.1, v.2.1, v.2.2.1, v.2.2.2.1, zc.1, zc.2), zm, sb c1 (sn n10 (sb c2 (sn n10 (sp (ii_ib (by omega) (by omega)) (sp (ii_ib (by omega) (by omega)) (sb f1 (sp rfl rfl))))))), sb m (sn n10 (sb f2 (sn (fun x => ?_) rfl))), ⟨rfl, rfl, rfl⟩, ff⟩
      have := (ii_le_ni (show 1 < 2147483648 by omega) (show 0 < 2147483648 by omega)).mp x
      omega
    · have hc := bi_c h.2.2.2.2.2
      have e3 := (h.2.2.2.1 k hk).2.2.1
      refine ⟨ii (lv k), (v.1, v.2.1, v.2.2.1, v.2.2.2.1, zc.1, zc.2), zm, sb c1 (sn n10 (sb c2 (sn n10 (sp (ii_ib (by omega) (by omega)) (sp (ii_ib (by omega) (by omega)) (sb f1 (sn n10 ?_))))))), sb m (sn n10 (sb f2 (sp (zk (by omega)) (sp (ii_ib (by omega) (by omega)) ?_)))), ⟨rfl, rfl, rfl⟩, ff⟩
      · rw [a1]
      · rw [ii_nat (by omega), e3]
  · refine ⟨-ii 1, v, z, ?_, sb m (sp rfl rfl), fc_r v, fr_r z⟩
    rcases c with c | ⟨c, c'⟩
    · exact sb c (sp rfl rfl)
    · exact sb c (sn n10 (sb c' (sp rfl rfl)))
theorem e_apart (hN : 1000 ≤ N) (R : pga P z.1) (x1 x2 : Int32) : ∃ r v' z', f_X10_apart N P v x1 x2 = some (r, v') ∧ f_X11_apart N z x1 x2 = some (r, z') ∧ fc v v' ∧ fr z z' := by
  unfold f_X10_apart f_X10_apart_0 f_X11_apart f_X11_apart_0 f_X10_apart_14 f_X11_apart_35
  rcases ap_cases N x1 x2 with ⟨i, j, hi, hj, rfl, rfl, c1, c2, m⟩ | ⟨c, m⟩
  · obtain ⟨rc, zc, rm, zm, f1, f2, ff, g⟩ := e_two hN R hi hj true (v.2.2.2.2.1, v.2.2.2.2.2)
    have t1 : (ii i).toNatClampNeg = i := ii_nat (by omega)
    have t2 : (ii j).toNatClampNeg = j := ii_nat (by omega)
    rw [t1, t2]
    rcases g with ⟨rfl, rfl⟩ | ⟨rfl, ini, st, q, lv, nm, dg, c, k, h, hk, rfl, a1, a2⟩
    · refine ⟨-9, (v.1, v.2.1, v.2.2.1, v.2.2.2.1, zc.1, zc.2), zm, sb c1 (sn n10 (sb c2 (sn n10 (sp (ii_ib (by omega) (by omega)) (sp (ii_ib (by omega) (by omega)) (sb f1 (sp rfl rfl))))))), sb m (sn n10 (sb f2 (sp ?_ (sn (fun x => ?_) rfl)))), ⟨rfl, rfl, rfl⟩, ff⟩
      · exact (ni_lt_ii (show 1 < 2147483648 by omega) (show 0 < 2147483648 by omega)).mpr (by omega)
      · have := (ii_le_ni (show 1 < 2147483648 by omega) (show 0 < 2147483648 by omega)).mp x
        omega
    · have hc := bi_c h.2.2.2.2.2
      have e3 := (h.2.2.2.1 k hk).2.2.1
      have nl : ¬ ii k < ii 0 := fun x => by have := (ii_lt (by omega) (by omega)).mp x; omega
      have ge : ii 0 ≤ ii k := (ii_le (by omega) (by omega)).mpr (Nat.zero_le _)
      by_cases q16 : ii (lv k) ≤ ii 16
      · refine ⟨ll (nm k), (v.1, v.2.1, v.2.2.1, v.2.2.2.1, zc.1, zc.2), zm, sb c1 (sn n10 (sb c2 (sn n10 (sp (ii_ib (by omega) (by omega)) (sp (ii_ib (by omega) (by omega)) (sb f1 (sn n10 (sp ?_ ?_)))))))), sb m (sn n10 (sb f2 (sn nl (sp (ii_ib (by omega) (by omega)) (sp ?_ ?_))))), ⟨rfl, rfl, rfl⟩, ff⟩
        · show zc.1 6 0 ≤ ii 16
          rw [a1]; exact q16
        · rw [a2]
        · show zm.1 29 (ii k).toNatClampNeg ≤ ii 16
          rw [ii_nat (by omega), e3]; exact q16
        · have e58 := m_ap58 (N := N) h k N (ll 0) 1 hk (by omega)
          rw [Nat.one_mul, ll_add, Nat.zero_add] at e58
          exact e58
      · refine ⟨-10, (v.1, v.2.1, v.2.2.1, v.2.2.2.1, zc.1, zc.2), zm, sb c1 (sn n10 (sb c2 (sn n10 (sp (ii_ib (by omega) (by omega)) (sp (ii_ib (by omega) (by omega)) (sb f1 (sn n10 (sn ?_ rfl)))))))), sb m (sn n10 (sb f2 (sn nl (sp (ii_ib (by omega) (by omega)) (sn ?_ (sp ge rfl)))))), ⟨rfl, rfl, rfl⟩, ff⟩
        · show ¬ zc.1 6 0 ≤ ii 16
          rw [a1]; exact q16
        · show ¬ zm.1 29 (ii k).toNatClampNeg ≤ ii 16
          rw [ii_nat (by omega), e3]; exact q16
  · refine ⟨-1, v, z, ?_, sb m (sp rfl rfl), fc_r v, fr_r z⟩
    rcases c with c | ⟨c, c'⟩
    · exact sb c (sp rfl rfl)
    · exact sb c (sn n10 (sb c' (sp rfl rfl)))
end
