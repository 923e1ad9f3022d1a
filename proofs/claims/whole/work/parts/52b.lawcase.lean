section LW
variable {p : Program} {l : Launch} {e : Env} {s : State} {m : MethodId} {below : List Frame} {meth : Method} {c : Code} {dC : Nat → ClassId} {dI : Nat → Nat → Nat} {cI cJ cB cP cQ cZ : ClassId} {b L i : Nat} {xs : Nat → Int32} {h g : Nat} {ad am : Nat → Nat} {aR : Nat} {adr : Nat → Nat} {aG : Nat} {adg : Nat → Nat} {aX : Nat} {adx : Nat → Nat} {aT : Nat} {kd adK adV : Nat → Nat} {ls : Array Slot} {u : ql_U} {z : ql_Z} {H : Heap} {locs : List Loc}
set_option maxHeartbeats 4000000 in
set_option maxRecDepth 100000 in
theorem lw_c0 (C0 : ql_C p s m #[Value.ref b] meth c code 4 ret wsL_law RL (dC, dI) (lw_tys cI cJ cB cP cQ cZ) (lw_A s)) (hE : ql_E adK adV (lw_A s) s s.heap) (hX : va_X b L xs s s.heap) (hbl : b < s.heap.size) (hi : i + 6 ≤ L) (hL : L ≤ 3072) (R : RR u z) (hW : lw_Wd s dC dI h ad aR adr aG adg aX adx aT kd cI cJ cB cP cQ cZ g am u z H locs) (hl : lv_has ls 4 [(3, .int (ii i)), (2, .ref g), (1, .ref h), (0, .ref b)])
    (kk : ∀ (u' : ql_U) (z' : ql_Z) (H1 : Heap) (locs1 : List Loc), RR u' z' → lw_Wd s dC dI h ad aR adr aG adg aX adx aT kd cI cJ cB cP cQ cZ g am u' z' H1 locs1 → W p l e room_1 s m #[Value.ref b] below meth c H1 locs1 600000 7302250 (lw_Z below #[Value.ref b] s) (F0 m 804 ls [])) : W p l e room_1 s m #[Value.ref b] below meth c H locs 600000 7302250 (lw_Z below #[Value.ref b] s) (F0 m 124 ls []) := by
  obtain ⟨hx, hb, hr, hml, hown, hts, hlocks, hK, hA⟩ := id C0
  obtain ⟨hPc, hDc, hPm, hDm, hap, hS⟩ := hW
  have hbA : ¬ lw_A s b := Nat.not_le.mpr hbl
  have hfz : 600000 ≤ room_1.cells ∧ 7302250 ≤ room_1.slots := ⟨Nat.le_of_ble_eq_true rfl, Nat.le_of_ble_eq_true rfl⟩
  have in1 : vp_in (ii i + 1) L := lw_in (k := 1) hi hL (by omega) rfl
  have in2 : vp_in (ii i + 2) L := lw_in (k := 2) hi hL (by omega) rfl
  have in3 : vp_in (ii i + 3) L := lw_in (k := 3) hi hL (by omega) rfl
  have hcl := hts (Cond.constantLong RL 13 (4294967295)) (by decide +kernel)
  obtain ⟨r, v', z', e1, e2, f1, f2, f3, f4⟩ := e_type (N := 1000) (P := u.2.1) (by omega) R.2.2.1 (((xs (ii i + 1).toNatClampNeg).toInt64 <<< ((32 : Int32).toInt64 &&& 63)) ||| ((xs (ii i + 2).toNatClampNeg).toInt64 &&& 4294967295)) (xs (ii i + 3).toNatClampNeg)
  refine lv_aload_n hx hb dL_law_124 rfl (lv_at hl 2 rfl) ?_
  refine lv_aload_n hx hb dL_law_125 rfl (lv_at hl 3 rfl) ?_
  refine lv_iload_n hx hb dL_law_126 rfl (lv_at hl 0 rfl) ?_
  refine lv_iconst (v := 1) hx hb dL_law_127 (by decide) ?_
  refine lv_iadd hx hb dL_law_128 ?_
  refine va_sld hx hb hX hbl hbA hS in1 dL_law_129 ?_
  refine lv_i2l hx hb dL_law_130 rfl ?_
  refine lv_bipush (v := 32) hx hb dL_law_131 (by decide) ?_
  refine lv_lshl hx hb dL_law_133 rfl ?_
  refine lv_aload_n hx hb dL_law_134 rfl (lv_at hl 3 rfl) ?_
  refine lv_iload_n hx hb dL_law_135 rfl (lv_at hl 0 rfl) ?_
  refine lv_iconst (v := 2) hx hb dL_law_136 (by decide) ?_
  refine lv_iadd hx hb dL_law_137 ?_
  refine va_sld hx hb hX hbl hbA hS in2 dL_law_138 ?_
  refine lv_i2l hx hb dL_law_139 rfl ?_
  refine lv_ldc2 (v := 4294967295) hx hb hown hcl dL_law_140 ?_
  refine lv_land hx hb dL_law_143 ?_
  refine lv_lor hx hb dL_law_144 ?_
  refine lv_aload_n hx hb dL_law_145 rfl (lv_at hl 3 rfl) ?_
  refine lv_iload_n hx hb dL_law_146 rfl (lv_at hl 0 rfl) ?_
  refine lv_iconst (v := 3) hx hb dL_law_147 (by decide) ?_
  refine lv_iadd hx hb dL_law_148 ?_
  refine va_sld hx hb hX hbl hbA hS in3 dL_law_149 ?_
  refine lc_Vi (w := ql_cw h ad aR adr aG adg aX adx aT kd cI cJ cB cP cQ u.2.2 u.2.1) (rest := []) C0 (c_X10_type l dC dI h ad aR adr aG adg aX adx aT kd cI cJ cB cP cQ u.2.2 1000 u.2.1 u.1 (((xs (ii i + 1).toNatClampNeg).toInt64 <<< ((32 : Int32).toInt64 &&& 63)) ||| ((xs (ii i + 2).toNatClampNeg).toInt64 &&& 4294967295)) (xs (ii i + 3).toNatClampNeg) (r, v') e1) (cwV 2 hts gL_law_X10_type rfl rfl rfl qv_X10_type ⟨Nat.le_of_ble_eq_true rfl, Nat.le_of_ble_eq_true rfl⟩) (hK.sub [0, 1, 2, 3, 4] rfl) (va_recv hK.1 hPc (ci := 10) (q0 := 0) rfl rfl) hPc hDc hPm hap hS hfz hl.1 rfl rfl (Nat.le_of_ble_eq_true rfl) dL_law_150 (fun H locs hPc hDc hPm hap hS => ?_)
  refine lv_aload_n hx hb dL_law_153 rfl (lv_at hl 1 rfl) ?_
  refine lv_aload_n hx hb dL_law_154 rfl (lv_at hl 3 rfl) ?_
  refine lv_iload_n hx hb dL_law_155 rfl (lv_at hl 0 rfl) ?_
  refine lv_iconst (v := 1) hx hb dL_law_156 (by decide) ?_
  refine lv_iadd hx hb dL_law_157 ?_
  refine va_sld hx hb hX hbl hbA hS in1 dL_law_158 ?_
  refine lv_i2l hx hb dL_law_159 rfl ?_
  refine lv_bipush (v := 32) hx hb dL_law_160 (by decide) ?_
  refine lv_lshl hx hb dL_law_162 rfl ?_
  refine lv_aload_n hx hb dL_law_163 rfl (lv_at hl 3 rfl) ?_
  refine lv_iload_n hx hb dL_law_164 rfl (lv_at hl 0 rfl) ?_
  refine lv_iconst (v := 2) hx hb dL_law_165 (by decide) ?_
  refine lv_iadd hx hb dL_law_166 ?_
  refine va_sld hx hb hX hbl hbA hS in2 dL_law_167 ?_
  refine lv_i2l hx hb dL_law_168 rfl ?_
  refine lv_ldc2 (v := 4294967295) hx hb hown hcl dL_law_169 ?_
  refine lv_land hx hb dL_law_172 ?_
  refine lv_lor hx hb dL_law_173 ?_
  refine lv_aload_n hx hb dL_law_174 rfl (lv_at hl 3 rfl) ?_
  refine lv_iload_n hx hb dL_law_175 rfl (lv_at hl 0 rfl) ?_
  refine lv_iconst (v := 3) hx hb dL_law_176 (by decide) ?_
  refine lv_iadd hx hb dL_law_177 ?_
  refine va_sld hx hb hX hbl hbA hS in3 dL_law_178 ?_
  refine lc_Vi (w := ql_mw g am cI cZ cJ) (rest := [.int r]) C0 (c_X11_type l dC dI g am cI cZ cJ 1000 z (((xs (ii i + 1).toNatClampNeg).toInt64 <<< ((32 : Int32).toInt64 &&& 63)) ||| ((xs (ii i + 2).toNatClampNeg).toInt64 &&& 4294967295)) (xs (ii i + 3).toNatClampNeg) (r, z') e2) (cwV 2 hts gL_law_X11_type rfl rfl rfl qv_X11_type ⟨Nat.le_of_ble_eq_true rfl, Nat.le_of_ble_eq_true rfl⟩) (hK.sub [0, 5, 1] rfl) (va_recv hK.1 hPm (ci := 11) (q0 := 0) rfl rfl) hPm hDm hPc hap.sy hS hfz hl.1 rfl rfl (Nat.le_of_ble_eq_true rfl) dL_law_179 (fun H locs hPm hDm hPc hap hS => ?_)
  have hap := hap.sy
  refine lv_icmp_eq (tgt := 804) hx hb dL_law_182 (by decide) (fun _ => ?_) (fun cz => absurd rfl cz)
  exact kk (v', u.2) z' _ _ (RR_k R (fun s a b _ => f2 s a b) f1 (by rw [f3, f4]; exact R.2.2.2.1)) ⟨hPc, hDc, hPm, hDm, hap, hS⟩
set_option maxHeartbeats 4000000 in
set_option maxRecDepth 100000 in
theorem lw_c1 (C0 : ql_C p s m #[Value.ref b] meth c code 4 ret wsL_law RL (dC, dI) (lw_tys cI cJ cB cP cQ cZ) (lw_A s)) (hE : ql_E adK adV (lw_A s) s s.heap) (hX : va_X b L xs s s.heap) (hbl : b < s.heap.size) (hi : i + 6 ≤ L) (hL : L ≤ 3072) (R : RR u z) (hW : lw_Wd s dC dI h ad aR adr aG adg aX adx aT kd cI cJ cB cP cQ cZ g am u z H locs) (hl : lv_has ls 4 [(3, .int (ii i)), (2, .ref g), (1, .ref h), (0, .ref b)])
    (kk : ∀ (u' : ql_U) (z' : ql_Z) (H1 : Heap) (locs1 : List Loc), RR u' z' → lw_Wd s dC dI h ad aR adr aG adg aX adx aT kd cI cJ cB cP cQ cZ g am u' z' H1 locs1 → W p l e room_1 s m #[Value.ref b] below meth c H1 locs1 600000 7302250 (lw_Z below #[Value.ref b] s) (F0 m 804 ls [])) : W p l e room_1 s m #[Value.ref b] below meth c H locs 600000 7302250 (lw_Z below #[Value.ref b] s) (F0 m 187 ls []) := by
  obtain ⟨hx, hb, hr, hml, hown, hts, hlocks, hK, hA⟩ := id C0
  obtain ⟨hPc, hDc, hPm, hDm, hap, hS⟩ := hW
  have hbA : ¬ lw_A s b := Nat.not_le.mpr hbl
  have hfz : 600000 ≤ room_1.cells ∧ 7302250 ≤ room_1.slots := ⟨Nat.le_of_ble_eq_true rfl, Nat.le_of_ble_eq_true rfl⟩
  obtain ⟨r, v', z', e1, e2, f1, f2, f3, f4⟩ := e_clear (N := 1000) (P := u.2.1) R.2.2.1
  refine lv_aload_n hx hb dL_law_187 rfl (lv_at hl 2 rfl) ?_
  refine lc_Vi (w := ql_cw h ad aR adr aG adg aX adx aT kd cI cJ cB cP cQ u.2.2 u.2.1) (rest := []) C0 (c_X10_clear l dC dI h ad aR adr aG adg aX adx aT kd cI cJ cB cP cQ u.2.2 1000 u.2.1 u.1 (r, v') e1) (cwV 0 hts gL_law_X10_clear rfl rfl rfl qv_X10_clear ⟨Nat.le_of_ble_eq_true rfl, Nat.le_of_ble_eq_true rfl⟩) (hK.sub [0, 1, 2, 3, 4] rfl) (va_recv hK.1 hPc (ci := 10) (q0 := 0) rfl rfl) hPc hDc hPm hap hS hfz hl.1 rfl rfl (Nat.le_of_ble_eq_true rfl) dL_law_188 (fun H locs hPc hDc hPm hap hS => ?_)
  refine lv_aload_n hx hb dL_law_191 rfl (lv_at hl 1 rfl) ?_
  refine lc_Vi (w := ql_mw g am cI cZ cJ) (rest := [.int r]) C0 (c_X11_clear l dC dI g am cI cZ cJ 1000 z (r, z') e2) (cwV 0 hts gL_law_X11_clear rfl rfl rfl qv_X11_clear ⟨Nat.le_of_ble_eq_true rfl, Nat.le_of_ble_eq_true rfl⟩) (hK.sub [0, 5, 1] rfl) (va_recv hK.1 hPm (ci := 11) (q0 := 0) rfl rfl) hPm hDm hPc hap.sy hS hfz hl.1 rfl rfl (Nat.le_of_ble_eq_true rfl) dL_law_192 (fun H locs hPm hDm hPc hap hS => ?_)
  have hap := hap.sy
  refine lv_icmp_eq (tgt := 804) hx hb dL_law_195 (by decide) (fun _ => ?_) (fun cz => absurd rfl cz)
  exact kk (v', u.2) z' _ _ (RR_k R (fun s _ b _ => f2 s b) f1 (by rw [f3, f4]; exact R.2.2.2.1)) ⟨hPc, hDc, hPm, hDm, hap, hS⟩
set_option maxHeartbeats 4000000 in
set_option maxRecDepth 100000 in
theorem lw_c2 (C0 : ql_C p s m #[Value.ref b] meth c code 4 ret wsL_law RL (dC, dI) (lw_tys cI cJ cB cP cQ cZ) (lw_A s)) (hE : ql_E adK adV (lw_A s) s s.heap) (hX : va_X b L xs s s.heap) (hbl : b < s.heap.size) (hi : i + 6 ≤ L) (hL : L ≤ 3072) (R : RR u z) (hW : lw_Wd s dC dI h ad aR adr aG adg aX adx aT kd cI cJ cB cP cQ cZ g am u z H locs) (hl : lv_has ls 4 [(3, .int (ii i)), (2, .ref g), (1, .ref h), (0, .ref b)])
    (kk : ∀ (u' : ql_U) (z' : ql_Z) (H1 : Heap) (locs1 : List Loc), RR u' z' → lw_Wd s dC dI h ad aR adr aG adg aX adx aT kd cI cJ cB cP cQ cZ g am u' z' H1 locs1 → W p l e room_1 s m #[Value.ref b] below meth c H1 locs1 600000 7302250 (lw_Z below #[Value.ref b] s) (F0 m 804 ls [])) : W p l e room_1 s m #[Value.ref b] below meth c H locs 600000 7302250 (lw_Z below #[Value.ref b] s) (F0 m 200 ls []) := by
  obtain ⟨hx, hb, hr, hml, hown, hts, hlocks, hK, hA⟩ := id C0
  obtain ⟨hPc, hDc, hPm, hDm, hap, hS⟩ := hW
  have hbA : ¬ lw_A s b := Nat.not_le.mpr hbl
  have hfz : 600000 ≤ room_1.cells ∧ 7302250 ≤ room_1.slots := ⟨Nat.le_of_ble_eq_true rfl, Nat.le_of_ble_eq_true rfl⟩
  have in1 : vp_in (ii i + 1) L := lw_in (k := 1) hi hL (by omega) rfl
  obtain ⟨r, u', z', e1, e2, f1⟩ := e_program (N := 1000) (by omega) R (xs (ii i + 1).toNatClampNeg)
  refine lv_aload_n hx hb dL_law_200 rfl (lv_at hl 2 rfl) ?_
  refine lv_aload_n hx hb dL_law_201 rfl (lv_at hl 3 rfl) ?_
  refine lv_iload_n hx hb dL_law_202 rfl (lv_at hl 0 rfl) ?_
  refine lv_iconst (v := 1) hx hb dL_law_203 (by decide) ?_
  refine lv_iadd hx hb dL_law_204 ?_
  refine va_sld hx hb hX hbl hbA hS in1 dL_law_205 ?_
  refine lc_ViE (w := ql_cu h ad aR adr aG adg aX adx aT kd cI cJ cB cP cQ) (rest := []) C0 hE (c_X10_program l dC dI adK adV h ad aR adr aG adg aX adx aT kd cI cJ cB cP cQ 1000 u (xs (ii i + 1).toNatClampNeg) (r, u') e1) (cwV 1 hts gL_law_X10_program rfl rfl rfl qv_X10_program ⟨Nat.le_of_ble_eq_true rfl, Nat.le_of_ble_eq_true rfl⟩) (hK.sub [0, 1, 2, 3, 4] rfl) (va_recv hK.1 hPc (ci := 10) (q0 := 0) rfl rfl) hPc hDc hPm hap hS hfz hl.1 rfl rfl (Nat.le_of_ble_eq_true rfl) dL_law_206 (fun H locs hPc hDc hPm hap hS => ?_)
  refine lv_aload_n hx hb dL_law_209 rfl (lv_at hl 1 rfl) ?_
  refine lv_aload_n hx hb dL_law_210 rfl (lv_at hl 3 rfl) ?_
  refine lv_iload_n hx hb dL_law_211 rfl (lv_at hl 0 rfl) ?_
  refine lv_iconst (v := 1) hx hb dL_law_212 (by decide) ?_
  refine lv_iadd hx hb dL_law_213 ?_
  refine va_sld hx hb hX hbl hbA hS in1 dL_law_214 ?_
  refine lc_Vi (w := ql_mw g am cI cZ cJ) (rest := [.int r]) C0 (c_X11_program l dC dI g am cI cZ cJ 1000 z (xs (ii i + 1).toNatClampNeg) (r, z') e2) (cwV 1 hts gL_law_X11_program rfl rfl rfl qv_X11_program ⟨Nat.le_of_ble_eq_true rfl, Nat.le_of_ble_eq_true rfl⟩) (hK.sub [0, 5, 1] rfl) (va_recv hK.1 hPm (ci := 11) (q0 := 0) rfl rfl) hPm hDm hPc hap.sy hS hfz hl.1 rfl rfl (Nat.le_of_ble_eq_true rfl) dL_law_215 (fun H locs hPm hDm hPc hap hS => ?_)
  have hap := hap.sy
  refine lv_icmp_eq (tgt := 804) hx hb dL_law_218 (by decide) (fun _ => ?_) (fun cz => absurd rfl cz)
  exact kk u' z' _ _ f1 ⟨hPc, hDc, hPm, hDm, hap, hS⟩
set_option maxHeartbeats 4000000 in
set_option maxRecDepth 100000 in
theorem lw_c3 (C0 : ql_C p s m #[Value.ref b] meth c code 4 ret wsL_law RL (dC, dI) (lw_tys cI cJ cB cP cQ cZ) (lw_A s)) (hE : ql_E adK adV (lw_A s) s s.heap) (hX : va_X b L xs s s.heap) (hbl : b < s.heap.size) (hi : i + 6 ≤ L) (hL : L ≤ 3072) (R : RR u z) (hW : lw_Wd s dC dI h ad aR adr aG adg aX adx aT kd cI cJ cB cP cQ cZ g am u z H locs) (hl : lv_has ls 4 [(3, .int (ii i)), (2, .ref g), (1, .ref h), (0, .ref b)])
    (kk : ∀ (u' : ql_U) (z' : ql_Z) (H1 : Heap) (locs1 : List Loc), RR u' z' → lw_Wd s dC dI h ad aR adr aG adg aX adx aT kd cI cJ cB cP cQ cZ g am u' z' H1 locs1 → W p l e room_1 s m #[Value.ref b] below meth c H1 locs1 600000 7302250 (lw_Z below #[Value.ref b] s) (F0 m 804 ls [])) : W p l e room_1 s m #[Value.ref b] below meth c H locs 600000 7302250 (lw_Z below #[Value.ref b] s) (F0 m 223 ls []) := by
  obtain ⟨hx, hb, hr, hml, hown, hts, hlocks, hK, hA⟩ := id C0
  obtain ⟨hPc, hDc, hPm, hDm, hap, hS⟩ := hW
  have hbA : ¬ lw_A s b := Nat.not_le.mpr hbl
  have hfz : 600000 ≤ room_1.cells ∧ 7302250 ≤ room_1.slots := ⟨Nat.le_of_ble_eq_true rfl, Nat.le_of_ble_eq_true rfl⟩
  have in1 : vp_in (ii i + 1) L := lw_in (k := 1) hi hL (by omega) rfl
  have in2 : vp_in (ii i + 2) L := lw_in (k := 2) hi hL (by omega) rfl
  have in3 : vp_in (ii i + 3) L := lw_in (k := 3) hi hL (by omega) rfl
  have in4 : vp_in (ii i + 4) L := lw_in (k := 4) hi hL (by omega) rfl
  obtain ⟨r, e1, e2⟩ := e_next (N := 1000) (v := u.1) R.1 (xs (ii i + 1).toNatClampNeg) (xs (ii i + 2).toNatClampNeg) (xs (ii i + 3).toNatClampNeg) (xs (ii i + 4).toNatClampNeg)
  refine lv_aload_n hx hb dL_law_223 rfl (lv_at hl 2 rfl) ?_
  refine lv_aload_n hx hb dL_law_224 rfl (lv_at hl 3 rfl) ?_
  refine lv_iload_n hx hb dL_law_225 rfl (lv_at hl 0 rfl) ?_
  refine lv_iconst (v := 1) hx hb dL_law_226 (by decide) ?_
  refine lv_iadd hx hb dL_law_227 ?_
  refine va_sld hx hb hX hbl hbA hS in1 dL_law_228 ?_
  refine lv_aload_n hx hb dL_law_229 rfl (lv_at hl 3 rfl) ?_
  refine lv_iload_n hx hb dL_law_230 rfl (lv_at hl 0 rfl) ?_
  refine lv_iconst (v := 2) hx hb dL_law_231 (by decide) ?_
  refine lv_iadd hx hb dL_law_232 ?_
  refine va_sld hx hb hX hbl hbA hS in2 dL_law_233 ?_
  refine lv_aload_n hx hb dL_law_234 rfl (lv_at hl 3 rfl) ?_
  refine lv_iload_n hx hb dL_law_235 rfl (lv_at hl 0 rfl) ?_
  refine lv_iconst (v := 3) hx hb dL_law_236 (by decide) ?_
  refine lv_iadd hx hb dL_law_237 ?_
  refine va_sld hx hb hX hbl hbA hS in3 dL_law_238 ?_
  refine lv_aload_n hx hb dL_law_239 rfl (lv_at hl 3 rfl) ?_
  refine lv_iload_n hx hb dL_law_240 rfl (lv_at hl 0 rfl) ?_
  refine lv_iconst (v := 4) hx hb dL_law_241 (by decide) ?_
  refine lv_iadd hx hb dL_law_242 ?_
  refine va_sld hx hb hX hbl hbA hS in4 dL_law_243 ?_
  refine lc_Ri (rest := []) C0 (c_X10_next l dC dI h ad aR adr aG adg aX adx aT kd cI cJ cB cP cQ u.2.2 1000 u.2.1 u.1 (xs (ii i + 1).toNatClampNeg) (xs (ii i + 2).toNatClampNeg) (xs (ii i + 3).toNatClampNeg) (xs (ii i + 4).toNatClampNeg) r e1) (cwV 4 hts gL_law_X10_next rfl rfl rfl qv_X10_next ⟨Nat.le_of_ble_eq_true rfl, Nat.le_of_ble_eq_true rfl⟩) (va_recv hK.1 hPc (ci := 10) (q0 := 0) rfl rfl) (hK.sub [0, 1, 2, 3, 4] rfl) hPc hS hfz hl.1 rfl rfl (Nat.le_of_ble_eq_true rfl) dL_law_244 (fun H1 locs1 hk hS => ?_)
  have hPc := ql_keep hPc hk
  have hPm := ql_keep hPm hk
  refine lv_aload_n hx hb dL_law_247 rfl (lv_at hl 1 rfl) ?_
  refine lv_aload_n hx hb dL_law_248 rfl (lv_at hl 3 rfl) ?_
  refine lv_iload_n hx hb dL_law_249 rfl (lv_at hl 0 rfl) ?_
  refine lv_iconst (v := 1) hx hb dL_law_250 (by decide) ?_
  refine lv_iadd hx hb dL_law_251 ?_
  refine va_sld hx hb hX hbl hbA hS in1 dL_law_252 ?_
  refine lv_aload_n hx hb dL_law_253 rfl (lv_at hl 3 rfl) ?_
  refine lv_iload_n hx hb dL_law_254 rfl (lv_at hl 0 rfl) ?_
  refine lv_iconst (v := 2) hx hb dL_law_255 (by decide) ?_
  refine lv_iadd hx hb dL_law_256 ?_
  refine va_sld hx hb hX hbl hbA hS in2 dL_law_257 ?_
  refine lv_aload_n hx hb dL_law_258 rfl (lv_at hl 3 rfl) ?_
  refine lv_iload_n hx hb dL_law_259 rfl (lv_at hl 0 rfl) ?_
  refine lv_iconst (v := 3) hx hb dL_law_260 (by decide) ?_
  refine lv_iadd hx hb dL_law_261 ?_
  refine va_sld hx hb hX hbl hbA hS in3 dL_law_262 ?_
  refine lv_aload_n hx hb dL_law_263 rfl (lv_at hl 3 rfl) ?_
  refine lv_iload_n hx hb dL_law_264 rfl (lv_at hl 0 rfl) ?_
  refine lv_iconst (v := 4) hx hb dL_law_265 (by decide) ?_
  refine lv_iadd hx hb dL_law_266 ?_
  refine va_sld hx hb hX hbl hbA hS in4 dL_law_267 ?_
  refine lc_Ri (rest := [.int r]) C0 (c_X11_next l dC dI g am cI cZ cJ 1000 z (xs (ii i + 1).toNatClampNeg) (xs (ii i + 2).toNatClampNeg) (xs (ii i + 3).toNatClampNeg) (xs (ii i + 4).toNatClampNeg) r e2) (cwV 4 hts gL_law_X11_next rfl rfl rfl qv_X11_next ⟨Nat.le_of_ble_eq_true rfl, Nat.le_of_ble_eq_true rfl⟩) (va_recv hK.1 hPm (ci := 11) (q0 := 0) rfl rfl) (hK.sub [0, 5, 1] rfl) hPm hS hfz hl.1 rfl rfl (Nat.le_of_ble_eq_true rfl) dL_law_268 (fun H1 locs1 hk hS => ?_)
  have hPc := ql_keep hPc hk
  have hPm := ql_keep hPm hk
  refine lv_icmp_eq (tgt := 804) hx hb dL_law_271 (by decide) (fun _ => ?_) (fun cz => absurd rfl cz)
  exact kk u z _ _ R ⟨hPc, hDc, hPm, hDm, hap, hS⟩
end LW
