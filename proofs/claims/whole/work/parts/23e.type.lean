/-! type, clear, trace -/
def sx (b : Nat) : Int32 := if b < 128 then ii b else -ii (256 - b)
def tr (v : ql_V) (z : ql_Z) : Prop := ∃ L, ∃ b : Nat → Nat, L ≤ 300 ∧ v.1 1 0 = ii L ∧ z.1 2 0 = ii L ∧ ∀ j, j < L → b j < 256 ∧ z.1 1 j = ii (b j) ∧ v.1 0 j = sx (b j)
theorem sx_all : ∀ w : BitVec 8, Int32.ofBitVec (w.signExtend 32) = sx w.toNat := by decide +kernel
theorem nb_by (y : Int8) : vp_nar .byte y.toInt32 = y.toInt32 := by
  have t : ∀ w : BitVec 8, vp_nar .byte (Int8.ofBitVec w).toInt32 = (Int8.ofBitVec w).toInt32 := by decide +kernel
  exact t y.toBitVec
theorem ty_m (x : Int64) {k : Nat} (hk : k < 8) : ((x >>> ((ii 8 * ii k).toInt64 &&& 63)) &&& 255).toInt32 = ii ((x.toBitVec >>> (8 * k)).setWidth 8).toNat := by
  have amt : ((((ii 8 * ii k).toInt64 &&& 63) : Int64).toBitVec.smod (64 : BitVec 64)).toNat = 8 * k := by
    have t : ∀ k : Fin 8, ((((ii 8 * ii k.1).toInt64 &&& 63) : Int64).toBitVec.smod (64 : BitVec 64)).toNat = 8 * k.1 := by decide +kernel
    exact t ⟨k, hk⟩
  refine Int32.toBitVec_inj.mp (BitVec.eq_of_getLsbD_eq fun i hi => ?_)
  have l : (((x >>> ((ii 8 * ii k).toInt64 &&& 63)) &&& 255).toInt32).toBitVec = ((x.toBitVec.sshiftRight (8 * k)) &&& 255#64).signExtend 32 := by
    rw [Int64.toBitVec_toInt32, Int64.toBitVec_and, Int64.toBitVec_shiftRight, BitVec.sshiftRight_eq', amt]; rfl
  have r : (ii ((x.toBitVec >>> (8 * k)).setWidth 8).toNat).toBitVec = ((x.toBitVec >>> (8 * k)).setWidth 8).setWidth 32 := BitVec.ofNat_toNat _ _
  rw [l, r, BitVec.signExtend_eq_setWidth_of_le _ (by omega), BitVec.getLsbD_setWidth, BitVec.getLsbD_setWidth, BitVec.getLsbD_setWidth, BitVec.getLsbD_and, BitVec.getLsbD_sshiftRight, BitVec.getLsbD_ushiftRight]
  have m255 : ∀ i : Fin 32, (255#64).getLsbD i.1 = decide (i.1 < 8) := by decide +kernel
  rw [m255 ⟨i, hi⟩]
  by_cases q : i < 8
  · have h1 : 8 * k + i < 64 := by omega
    simp [q, hi, h1, show i < 64 by omega]
  · simp [q]
theorem ty_c (x : Int64) {k : Nat} (hk : k < 8) : vp_nar .byte ((((x.toUInt64 >>> ((ii 8 * ii k).toInt64.toUInt64 &&& Int64.toUInt64 63)).toInt64).toInt32).toInt8.toInt32) = sx ((x.toBitVec >>> (8 * k)).setWidth 8).toNat := by
  rw [nb_by, ← sx_all]
  have amt : ((((ii 8 * ii k).toInt64.toUInt64 &&& Int64.toUInt64 63) : UInt64).toBitVec % (64 : BitVec 64)).toNat = 8 * k := by
    have t : ∀ k : Fin 8, ((((ii 8 * ii k.1).toInt64.toUInt64 &&& Int64.toUInt64 63) : UInt64).toBitVec % (64 : BitVec 64)).toNat = 8 * k.1 := by decide +kernel
    exact t ⟨k, hk⟩
  refine Int32.toBitVec_inj.mp ?_
  rw [Int8.toBitVec_toInt32]
  refine congrArg (BitVec.signExtend 32) ?_
  refine BitVec.eq_of_getLsbD_eq fun i hi => ?_
  rw [Int32.toBitVec_toInt8, Int64.toBitVec_toInt32]
  have e : ((x.toUInt64 >>> ((ii 8 * ii k).toInt64.toUInt64 &&& Int64.toUInt64 63)).toInt64).toBitVec = x.toBitVec >>> (8 * k) := by
    show (x.toUInt64 >>> ((ii 8 * ii k).toInt64.toUInt64 &&& Int64.toUInt64 63)).toBitVec = _
    rw [UInt64.toBitVec_shiftRight, BitVec.ushiftRight_eq', amt]; rfl
  rw [e, BitVec.signExtend_eq_setWidth_of_le _ (by omega), BitVec.signExtend_eq_setWidth_of_le _ (by omega), BitVec.getLsbD_setWidth, BitVec.getLsbD_setWidth, BitVec.getLsbD_setWidth]
  simp [hi, show i < 32 by omega]
section
variable {N : Nat} {P : Nat → ql_St}
theorem tr_push {v : ql_V} {z : ql_Z} {L W : Nat} {b : Nat → Nat} (hw : W < 256) (hb : ∀ j, j < L → b j < 256 ∧ z.1 1 j = ii (b j) ∧ v.1 0 j = sx (b j)) : ∀ j, j < L + 1 → (fun j => if j = L then W else b j) j < 256 ∧ (ql_up (ql_up z.1 1 (upd (z.1 1) L (ii W))) 2 (fun _ => ii (L + 1))) 1 j = ii ((fun j => if j = L then W else b j) j) ∧ (ql_up (ql_up v.1 0 (upd (v.1 0) L (sx W))) 1 (fun _ => ii (L + 1))) 0 j = sx ((fun j => if j = L then W else b j) j) := by
  intro j hj
  rw [up_ne (by decide), up_same, up_ne (by decide), up_same]
  show (if j = L then W else b j) < 256 ∧ upd (z.1 1) L (ii W) j = ii (if j = L then W else b j) ∧ upd (v.1 0) L (sx W) j = sx (if j = L then W else b j)
  by_cases e : j = L
  · subst e; rw [if_pos rfl, ud_same, ud_same]; exact ⟨hw, rfl, rfl⟩
  · rw [if_neg e, ud_ne e, ud_ne e]; exact hb j (by omega)
theorem e_ty (x1 : Int64) : ∀ q m (v : ql_V) (z : ql_Z) L (b : Nat → Nat), q ≤ 8 → q + 1 ≤ m → L + q ≤ 300 → v.1 1 0 = ii L → z.1 2 0 = ii L → (∀ j, j < L → b j < 256 ∧ z.1 1 j = ii (b j) ∧ v.1 0 j = sx (b j)) →
    ∃ v' z', f_X10_type_33 N P m v x1 (em (de q)) = some (ii (L + q), v') ∧ f_X11_type_34 N m z x1 (em (de q)) = some (ii (L + q), z') ∧ tr v' z' ∧ (∀ s, s ≠ 1 → s ≠ 2 → z'.1 s = z.1 s) ∧ z'.2 = z.2 ∧ v'.2 = v.2 := by
  intro q
  induction q with
  | zero =>
    intro m v z L b hq hm hL h1 h2 hb
    obtain ⟨m, rfl⟩ : ∃ j, m = j + 1 := ⟨m - 1, by omega⟩
    have n0 : em (de 0) < (0 : Int32) := (ni_lt_ii (show 1 < 2147483648 by omega) (show 0 < 2147483648 by omega)).mpr (by omega)
    refine ⟨v, z, ?_, ?_, ⟨L, b, by omega, h1, h2, hb⟩, fun _ _ _ => rfl, rfl, rfl⟩
    · rw [f_X10_type_33, h1]; exact sp n0 rfl
    · rw [f_X11_type_34, h2]; exact sp n0 rfl
  | succ q ih =>
    intro m v z L b hq hm hL h1 h2 hb
    obtain ⟨m, rfl⟩ : ∃ j, m = j + 1 := ⟨m - 1, by omega⟩
    have e0 : em (de (q + 1)) = ii q := rfl
    have e1 : ii q + (-1) = em (de q) := by
      rw [← em_de, Int32.sub_eq_add_neg]; rfl
    have nl : ¬ ii q < (0 : Int32) := nl0 (by omega)
    have hw : ((x1.toBitVec >>> (8 * q)).setWidth 8).toNat < 256 := BitVec.isLt _
    obtain ⟨v', z', a1, a2, a3, a4, a5, a6⟩ := ih m (ql_up (ql_up v.1 0 (upd (v.1 0) L (sx ((x1.toBitVec >>> (8 * q)).setWidth 8).toNat))) 1 (fun _ => ii (L + 1)), v.2) (ql_up (ql_up z.1 1 (upd (z.1 1) L (ii ((x1.toBitVec >>> (8 * q)).setWidth 8).toNat))) 2 (fun _ => ii (L + 1)), z.2) (L + 1) (fun j => if j = L then ((x1.toBitVec >>> (8 * q)).setWidth 8).toNat else b j) (by omega) (by omega) (by omega) rfl rfl (tr_push hw hb)
    refine ⟨v', z', ?_, ?_, a3, fun s s1 s2 => ?_, a5, a6⟩
    · rw [f_X10_type_33, e0, h1, lk_8, e1, ii_nat (by omega), ty_c x1 (by omega), lk_1, ii_add, show L + (q + 1) = L + 1 + q by omega]
      exact sn nl (sp (ii_ib (by omega) (by omega)) a1)
    · rw [f_X11_type_34, e0, h2, lk_8, e1, ii_nat (by omega), ty_m x1 (by omega), lk_1, ii_add, show L + (q + 1) = L + 1 + q by omega]
      exact sn nl (sp (ii_ib (by omega) (by omega)) a2)
    · rw [a4 s s1 s2]
      exact (up_ne (k := 2) s2).trans (up_ne (k := 1) s1)
theorem e_type (hN : 1000 ≤ N) {v : ql_V} {z : ql_Z} (ht : tr v z) (x1 : Int64) (x3 : Int32) :
    ∃ r v' z', f_X10_type N P v x1 x3 = some (r, v') ∧ f_X11_type N z x1 x3 = some (r, z') ∧ tr v' z' ∧ (∀ s, s ≠ 1 → s ≠ 2 → z'.1 s = z.1 s) ∧ z'.2 = z.2 ∧ v'.2 = v.2 := by
  unfold f_X10_type f_X10_type_0 f_X11_type f_X11_type_0
  have mi := m_in N x3 (ii 1) (ii 8)
  rw [lo_1, lo_8]
  rcases i3 x3 with hx | ⟨n, hn, rfl⟩
  · have hx1 : x3 < ii 1 := by
      rw [Int32.lt_iff_toInt_lt, ii_int (by omega)] at *; omega
    rw [if_pos hx1] at mi
    exact ⟨-ii 1, v, z, sp hx1 rfl, sb mi (sp rfl rfl), ht, fun _ _ _ => rfl, rfl, rfl⟩
  · by_cases h0 : n = 0
    · subst h0
      have l1 : ii 0 < ii 1 := (ii_lt (by omega) (by omega)).mpr (by omega)
      rw [if_pos l1] at mi
      exact ⟨-ii 1, v, z, sp l1 rfl, sb mi (sp rfl rfl), ht, fun _ _ _ => rfl, rfl, rfl⟩
    · have l1 : ¬ ii n < ii 1 := lt_n 1 (by omega) hn
      rw [if_neg l1] at mi
      by_cases h8 : n ≤ 8
      · rw [if_neg (lt_n (a := 8) n (by omega) (by omega))] at mi
        obtain ⟨L, b, hL, a1, a2, a3⟩ := ht
        have le8 : ii n ≤ (8 : Int32) := le_y 8 h8 (by omega)
        by_cases hf : L + n ≤ 300
        · obtain ⟨v', z', c1, c2, c3, c4, c5, c6⟩ := e_ty (N := N) (P := P) x1 n N v z L b h8 (by omega) hf a1 a2 a3
          have le300 : ii (L + n) ≤ (300 : Int32) := le_y 300 hf (by omega)
          refine ⟨ii (L + n), v', z', sn l1 (sp le8 (sp (by rw [a1, ii_add]; exact le300) ?_)), sb mi (sn n10 (sp (by rw [a2, ii_add]; exact le300) ?_)), c3, c4, c5, c6⟩
          · rw [lk_1, em_de]; exact c1
          · rw [lk_1, em_de]; exact c2
        · have nl : ¬ ii (L + n) ≤ (300 : Int32) := le_n 300 (by omega) (by omega)
          exact ⟨-ii 3, v, z, sn l1 (sp le8 (sn (by rw [a1, ii_add]; exact nl) rfl)), sb mi (sn n10 (sn (by rw [a2, ii_add]; exact nl) rfl)), ⟨L, b, hL, a1, a2, a3⟩, fun _ _ _ => rfl, rfl, rfl⟩
      · rw [if_pos ((ii_lt (by omega) hn).mpr (by omega))] at mi
        exact ⟨-ii 1, v, z, sn l1 (sn (le_n 8 (by omega) hn) rfl), sb mi (sp rfl rfl), ht, fun _ _ _ => rfl, rfl, rfl⟩
theorem e_clear {v : ql_V} {z : ql_Z} (ht : tr v z) : ∃ r v' z', f_X10_clear N P v = some (r, v') ∧ f_X11_clear N z = some (r, z') ∧ tr v' z' ∧ (∀ s, s ≠ 2 → z'.1 s = z.1 s) ∧ z'.2 = z.2 ∧ v'.2 = v.2 := by
  unfold f_X10_clear f_X10_clear_0 f_X11_clear f_X11_clear_0
  obtain ⟨L, b, hL, a1, a2, a3⟩ := ht
  refine ⟨ii L, (ql_up v.1 1 (fun _ => 0), v.2), (ql_up z.1 2 (fun _ => 0), z.2), by rw [a1], by rw [a2], ⟨0, b, by omega, rfl, rfl, fun j hj => by omega⟩, fun s hs => up_ne (k := 2) hs, rfl, rfl⟩
end
