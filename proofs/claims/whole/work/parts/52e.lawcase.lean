section LW
variable {p : Program} {l : Launch} {e : Env} {s : State} {m : MethodId} {below : List Frame} {meth : Method} {c : Code} {dC : Nat → ClassId} {dI : Nat → Nat → Nat} {cI cJ cB cP cQ cZ : ClassId} {b L i : Nat} {xs : Nat → Int32} {h g : Nat} {ad am : Nat → Nat} {aR : Nat} {adr : Nat → Nat} {aG : Nat} {adg : Nat → Nat} {aX : Nat} {adx : Nat → Nat} {aT : Nat} {kd adK adV : Nat → Nat} {ls : Array Slot} {u : ql_U} {z : ql_Z} {H : Heap} {locs : List Loc}
set_option maxHeartbeats 4000000 in
set_option maxRecDepth 100000 in
theorem lw_c14 (C0 : ql_C p s m #[Value.ref b] meth c code 4 ret wsL_law RL (dC, dI) (lw_tys cI cJ cB cP cQ cZ) (lw_A s)) (hE : ql_E adK adV (lw_A s) s s.heap) (hX : va_X b L xs s s.heap) (hbl : b < s.heap.size) (hi : i + 6 ≤ L) (hL : L ≤ 3072) (R : RR u z) (hW : lw_Wd s dC dI h ad aR adr aG adg aX adx aT kd cI cJ cB cP cQ cZ g am u z H locs) (hl : lv_has ls 4 [(3, .int (ii i)), (2, .ref g), (1, .ref h), (0, .ref b)])
    (kk : ∀ (u' : ql_U) (z' : ql_Z) (H1 : Heap) (locs1 : List Loc), RR u' z' → lw_Wd s dC dI h ad aR adr aG adg aX adx aT kd cI cJ cB cP cQ cZ g am u' z' H1 locs1 → W p l e room_1 s m #[Value.ref b] below meth c H1 locs1 600000 7302250 (lw_Z below #[Value.ref b] s) (F0 m 804 ls [])) : W p l e room_1 s m #[Value.ref b] below meth c H locs 600000 7302250 (lw_Z below #[Value.ref b] s) (F0 m 588 ls []) := by
  obtain ⟨hx, hb, hr, hml, hown, hts, hlocks, hK, hA⟩ := id C0
  obtain ⟨hPc, hDc, hPm, hDm, hap, hS⟩ := hW
  have hbA : ¬ lw_A s b := Nat.not_le.mpr hbl
  have hfz : 600000 ≤ room_1.cells ∧ 7302250 ≤ room_1.slots := ⟨Nat.le_of_ble_eq_true rfl, Nat.le_of_ble_eq_true rfl⟩
  have in1 : vp_in (ii i + 1) L := lw_in (k := 1) hi hL (by omega) rfl
  have in2 : vp_in (ii i + 2) L := lw_in (k := 2) hi hL (by omega) rfl
  have in3 : vp_in (ii i + 3) L := lw_in (k := 3) hi hL (by omega) rfl
  have in4 : vp_in (ii i + 4) L := lw_in (k := 4) hi hL (by omega) rfl
  have hcl := hts (Cond.constantLong RL 13 (4294967295)) (by decide +kernel)
  obtain ⟨r, v', z', e1, e2, f1, f2⟩ := e_lets (N := 1000) (v := u.1) (by omega) R.1 (xs (ii i + 1).toNatClampNeg) (xs (ii i + 2).toNatClampNeg) (((xs (ii i + 3).toNatClampNeg).toInt64 <<< ((32 : Int32).toInt64 &&& 63)) ||| ((xs (ii i + 4).toNatClampNeg).toInt64 &&& 4294967295))
  refine lv_aload_n hx hb dL_law_588 rfl (lv_at hl 2 rfl) ?_
  refine lv_aload_n hx hb dL_law_589 rfl (lv_at hl 3 rfl) ?_
  refine lv_iload_n hx hb dL_law_590 rfl (lv_at hl 0 rfl) ?_
  refine lv_iconst (v := 1) hx hb dL_law_591 (by decide) ?_
  refine lv_iadd hx hb dL_law_592 ?_
  refine va_sld hx hb hX hbl hbA hS in1 dL_law_593 ?_
  refine lv_aload_n hx hb dL_law_594 rfl (lv_at hl 3 rfl) ?_
  refine lv_iload_n hx hb dL_law_595 rfl (lv_at hl 0 rfl) ?_
  refine lv_iconst (v := 2) hx hb dL_law_596 (by decide) ?_
  refine lv_iadd hx hb dL_law_597 ?_
  refine va_sld hx hb hX hbl hbA hS in2 dL_law_598 ?_
  refine lv_aload_n hx hb dL_law_599 rfl (lv_at hl 3 rfl) ?_
  refine lv_iload_n hx hb dL_law_600 rfl (lv_at hl 0 rfl) ?_
  refine lv_iconst (v := 3) hx hb dL_law_601 (by decide) ?_
  refine lv_iadd hx hb dL_law_602 ?_
  refine va_sld hx hb hX hbl hbA hS in3 dL_law_603 ?_
  refine lv_i2l hx hb dL_law_604 rfl ?_
  refine lv_bipush (v := 32) hx hb dL_law_605 (by decide) ?_
  refine lv_lshl hx hb dL_law_607 rfl ?_
  refine lv_aload_n hx hb dL_law_608 rfl (lv_at hl 3 rfl) ?_
  refine lv_iload_n hx hb dL_law_609 rfl (lv_at hl 0 rfl) ?_
  refine lv_iconst (v := 4) hx hb dL_law_610 (by decide) ?_
  refine lv_iadd hx hb dL_law_611 ?_
  refine va_sld hx hb hX hbl hbA hS in4 dL_law_612 ?_
  refine lv_i2l hx hb dL_law_613 rfl ?_
  refine lv_ldc2 (v := 4294967295) hx hb hown hcl dL_law_614 ?_
  refine lv_land hx hb dL_law_617 ?_
  refine lv_lor hx hb dL_law_618 ?_
  refine lc_Vi (w := ql_cw h ad aR adr aG adg aX adx aT kd cI cJ cB cP cQ u.2.2 u.2.1) (rest := []) C0 (c_X10_lets l dC dI h ad aR adr aG adg aX adx aT kd cI cJ cB cP cQ u.2.2 1000 u.2.1 u.1 (xs (ii i + 1).toNatClampNeg) (xs (ii i + 2).toNatClampNeg) (((xs (ii i + 3).toNatClampNeg).toInt64 <<< ((32 : Int32).toInt64 &&& 63)) ||| ((xs (ii i + 4).toNatClampNeg).toInt64 &&& 4294967295)) (r, v') e1) (cwV 3 hts gL_law_X10_lets rfl rfl rfl qv_X10_lets ⟨Nat.le_of_ble_eq_true rfl, Nat.le_of_ble_eq_true rfl⟩) (hK.sub [0, 1, 2, 3, 4] rfl) (va_recv hK.1 hPc (ci := 10) (q0 := 0) rfl rfl) hPc hDc hPm hap hS hfz hl.1 rfl rfl (Nat.le_of_ble_eq_true rfl) dL_law_619 (fun H locs hPc hDc hPm hap hS => ?_)
  refine lv_aload_n hx hb dL_law_622 rfl (lv_at hl 1 rfl) ?_
  refine lv_aload_n hx hb dL_law_623 rfl (lv_at hl 3 rfl) ?_
  refine lv_iload_n hx hb dL_law_624 rfl (lv_at hl 0 rfl) ?_
  refine lv_iconst (v := 1) hx hb dL_law_625 (by decide) ?_
  refine lv_iadd hx hb dL_law_626 ?_
  refine va_sld hx hb hX hbl hbA hS in1 dL_law_627 ?_
  refine lv_aload_n hx hb dL_law_628 rfl (lv_at hl 3 rfl) ?_
  refine lv_iload_n hx hb dL_law_629 rfl (lv_at hl 0 rfl) ?_
  refine lv_iconst (v := 2) hx hb dL_law_630 (by decide) ?_
  refine lv_iadd hx hb dL_law_631 ?_
  refine va_sld hx hb hX hbl hbA hS in2 dL_law_632 ?_
  refine lv_aload_n hx hb dL_law_633 rfl (lv_at hl 3 rfl) ?_
  refine lv_iload_n hx hb dL_law_634 rfl (lv_at hl 0 rfl) ?_
  refine lv_iconst (v := 3) hx hb dL_law_635 (by decide) ?_
  refine lv_iadd hx hb dL_law_636 ?_
  refine va_sld hx hb hX hbl hbA hS in3 dL_law_637 ?_
  refine lv_i2l hx hb dL_law_638 rfl ?_
  refine lv_bipush (v := 32) hx hb dL_law_639 (by decide) ?_
  refine lv_lshl hx hb dL_law_641 rfl ?_
  refine lv_aload_n hx hb dL_law_642 rfl (lv_at hl 3 rfl) ?_
  refine lv_iload_n hx hb dL_law_643 rfl (lv_at hl 0 rfl) ?_
  refine lv_iconst (v := 4) hx hb dL_law_644 (by decide) ?_
  refine lv_iadd hx hb dL_law_645 ?_
  refine va_sld hx hb hX hbl hbA hS in4 dL_law_646 ?_
  refine lv_i2l hx hb dL_law_647 rfl ?_
  refine lv_ldc2 (v := 4294967295) hx hb hown hcl dL_law_648 ?_
  refine lv_land hx hb dL_law_651 ?_
  refine lv_lor hx hb dL_law_652 ?_
  refine lc_Vi (w := ql_mw g am cI cZ cJ) (rest := [.int r]) C0 (c_X11_lets l dC dI g am cI cZ cJ 1000 z (xs (ii i + 1).toNatClampNeg) (xs (ii i + 2).toNatClampNeg) (((xs (ii i + 3).toNatClampNeg).toInt64 <<< ((32 : Int32).toInt64 &&& 63)) ||| ((xs (ii i + 4).toNatClampNeg).toInt64 &&& 4294967295)) (r, z') e2) (cwV 3 hts gL_law_X11_lets rfl rfl rfl qv_X11_lets ⟨Nat.le_of_ble_eq_true rfl, Nat.le_of_ble_eq_true rfl⟩) (hK.sub [0, 5, 1] rfl) (va_recv hK.1 hPm (ci := 11) (q0 := 0) rfl rfl) hPm hDm hPc hap.sy hS hfz hl.1 rfl rfl (Nat.le_of_ble_eq_true rfl) dL_law_653 (fun H locs hPm hDm hPc hap hS => ?_)
  have hap := hap.sy
  refine lv_icmp_eq (tgt := 804) hx hb dL_law_656 (by decide) (fun _ => ?_) (fun cz => absurd rfl cz)
  exact kk (v', u.2) z' _ _ (RR_f R f1 f2) ⟨hPc, hDc, hPm, hDm, hap, hS⟩
set_option maxHeartbeats 4000000 in
set_option maxRecDepth 100000 in
theorem lw_c15 (C0 : ql_C p s m #[Value.ref b] meth c code 4 ret wsL_law RL (dC, dI) (lw_tys cI cJ cB cP cQ cZ) (lw_A s)) (hE : ql_E adK adV (lw_A s) s s.heap) (hX : va_X b L xs s s.heap) (hbl : b < s.heap.size) (hi : i + 6 ≤ L) (hL : L ≤ 3072) (R : RR u z) (hW : lw_Wd s dC dI h ad aR adr aG adg aX adx aT kd cI cJ cB cP cQ cZ g am u z H locs) (hl : lv_has ls 4 [(3, .int (ii i)), (2, .ref g), (1, .ref h), (0, .ref b)])
    (kk : ∀ (u' : ql_U) (z' : ql_Z) (H1 : Heap) (locs1 : List Loc), RR u' z' → lw_Wd s dC dI h ad aR adr aG adg aX adx aT kd cI cJ cB cP cQ cZ g am u' z' H1 locs1 → W p l e room_1 s m #[Value.ref b] below meth c H1 locs1 600000 7302250 (lw_Z below #[Value.ref b] s) (F0 m 804 ls [])) : W p l e room_1 s m #[Value.ref b] below meth c H locs 600000 7302250 (lw_Z below #[Value.ref b] s) (F0 m 661 ls []) := by
  obtain ⟨hx, hb, hr, hml, hown, hts, hlocks, hK, hA⟩ := id C0
  obtain ⟨hPc, hDc, hPm, hDm, hap, hS⟩ := hW
  have hbA : ¬ lw_A s b := Nat.not_le.mpr hbl
  have hfz : 600000 ≤ room_1.cells ∧ 7302250 ≤ room_1.slots := ⟨Nat.le_of_ble_eq_true rfl, Nat.le_of_ble_eq_true rfl⟩
  have in1 : vp_in (ii i + 1) L := lw_in (k := 1) hi hL (by omega) rfl
  have in2 : vp_in (ii i + 2) L := lw_in (k := 2) hi hL (by omega) rfl
  have in3 : vp_in (ii i + 3) L := lw_in (k := 3) hi hL (by omega) rfl
  have in4 : vp_in (ii i + 4) L := lw_in (k := 4) hi hL (by omega) rfl
  have in5 : vp_in (ii i + 5) L := lw_in (k := 5) hi hL (by omega) rfl
  have hcl := hts (Cond.constantLong RL 13 (4294967295)) (by decide +kernel)
  obtain ⟨r, v', z', e1, e2, f1, f2⟩ := e_walk (N := 1000) (v := u.1) (by omega) R.1 (xs (ii i + 1).toNatClampNeg) (xs (ii i + 2).toNatClampNeg) (((xs (ii i + 3).toNatClampNeg).toInt64 <<< ((32 : Int32).toInt64 &&& 63)) ||| ((xs (ii i + 4).toNatClampNeg).toInt64 &&& 4294967295)) (xs (ii i + 5).toNatClampNeg)
  refine lv_aload_n hx hb dL_law_661 rfl (lv_at hl 2 rfl) ?_
  refine lv_aload_n hx hb dL_law_662 rfl (lv_at hl 3 rfl) ?_
  refine lv_iload_n hx hb dL_law_663 rfl (lv_at hl 0 rfl) ?_
  refine lv_iconst (v := 1) hx hb dL_law_664 (by decide) ?_
  refine lv_iadd hx hb dL_law_665 ?_
  refine va_sld hx hb hX hbl hbA hS in1 dL_law_666 ?_
  refine lv_aload_n hx hb dL_law_667 rfl (lv_at hl 3 rfl) ?_
  refine lv_iload_n hx hb dL_law_668 rfl (lv_at hl 0 rfl) ?_
  refine lv_iconst (v := 2) hx hb dL_law_669 (by decide) ?_
  refine lv_iadd hx hb dL_law_670 ?_
  refine va_sld hx hb hX hbl hbA hS in2 dL_law_671 ?_
  refine lv_aload_n hx hb dL_law_672 rfl (lv_at hl 3 rfl) ?_
  refine lv_iload_n hx hb dL_law_673 rfl (lv_at hl 0 rfl) ?_
  refine lv_iconst (v := 3) hx hb dL_law_674 (by decide) ?_
  refine lv_iadd hx hb dL_law_675 ?_
  refine va_sld hx hb hX hbl hbA hS in3 dL_law_676 ?_
  refine lv_i2l hx hb dL_law_677 rfl ?_
  refine lv_bipush (v := 32) hx hb dL_law_678 (by decide) ?_
  refine lv_lshl hx hb dL_law_680 rfl ?_
  refine lv_aload_n hx hb dL_law_681 rfl (lv_at hl 3 rfl) ?_
  refine lv_iload_n hx hb dL_law_682 rfl (lv_at hl 0 rfl) ?_
  refine lv_iconst (v := 4) hx hb dL_law_683 (by decide) ?_
  refine lv_iadd hx hb dL_law_684 ?_
  refine va_sld hx hb hX hbl hbA hS in4 dL_law_685 ?_
  refine lv_i2l hx hb dL_law_686 rfl ?_
  refine lv_ldc2 (v := 4294967295) hx hb hown hcl dL_law_687 ?_
  refine lv_land hx hb dL_law_690 ?_
  refine lv_lor hx hb dL_law_691 ?_
  refine lv_aload_n hx hb dL_law_692 rfl (lv_at hl 3 rfl) ?_
  refine lv_iload_n hx hb dL_law_693 rfl (lv_at hl 0 rfl) ?_
  refine lv_iconst (v := 5) hx hb dL_law_694 (by decide) ?_
  refine lv_iadd hx hb dL_law_695 ?_
  refine va_sld hx hb hX hbl hbA hS in5 dL_law_696 ?_
  refine lc_Vi (w := ql_cw h ad aR adr aG adg aX adx aT kd cI cJ cB cP cQ u.2.2 u.2.1) (rest := []) C0 (c_X10_walk l dC dI h ad aR adr aG adg aX adx aT kd cI cJ cB cP cQ u.2.2 1000 u.2.1 u.1 (xs (ii i + 1).toNatClampNeg) (xs (ii i + 2).toNatClampNeg) (((xs (ii i + 3).toNatClampNeg).toInt64 <<< ((32 : Int32).toInt64 &&& 63)) ||| ((xs (ii i + 4).toNatClampNeg).toInt64 &&& 4294967295)) (xs (ii i + 5).toNatClampNeg) (r, v') e1) (cwV 4 hts gL_law_X10_walk rfl rfl rfl qv_X10_walk ⟨Nat.le_of_ble_eq_true rfl, Nat.le_of_ble_eq_true rfl⟩) (hK.sub [0, 1, 2, 3, 4] rfl) (va_recv hK.1 hPc (ci := 10) (q0 := 0) rfl rfl) hPc hDc hPm hap hS hfz hl.1 rfl rfl (Nat.le_of_ble_eq_true rfl) dL_law_697 (fun H locs hPc hDc hPm hap hS => ?_)
  refine lv_aload_n hx hb dL_law_700 rfl (lv_at hl 1 rfl) ?_
  refine lv_aload_n hx hb dL_law_701 rfl (lv_at hl 3 rfl) ?_
  refine lv_iload_n hx hb dL_law_702 rfl (lv_at hl 0 rfl) ?_
  refine lv_iconst (v := 1) hx hb dL_law_703 (by decide) ?_
  refine lv_iadd hx hb dL_law_704 ?_
  refine va_sld hx hb hX hbl hbA hS in1 dL_law_705 ?_
  refine lv_aload_n hx hb dL_law_706 rfl (lv_at hl 3 rfl) ?_
  refine lv_iload_n hx hb dL_law_707 rfl (lv_at hl 0 rfl) ?_
  refine lv_iconst (v := 2) hx hb dL_law_708 (by decide) ?_
  refine lv_iadd hx hb dL_law_709 ?_
  refine va_sld hx hb hX hbl hbA hS in2 dL_law_710 ?_
  refine lv_aload_n hx hb dL_law_711 rfl (lv_at hl 3 rfl) ?_
  refine lv_iload_n hx hb dL_law_712 rfl (lv_at hl 0 rfl) ?_
  refine lv_iconst (v := 3) hx hb dL_law_713 (by decide) ?_
  refine lv_iadd hx hb dL_law_714 ?_
  refine va_sld hx hb hX hbl hbA hS in3 dL_law_715 ?_
  refine lv_i2l hx hb dL_law_716 rfl ?_
  refine lv_bipush (v := 32) hx hb dL_law_717 (by decide) ?_
  refine lv_lshl hx hb dL_law_719 rfl ?_
  refine lv_aload_n hx hb dL_law_720 rfl (lv_at hl 3 rfl) ?_
  refine lv_iload_n hx hb dL_law_721 rfl (lv_at hl 0 rfl) ?_
  refine lv_iconst (v := 4) hx hb dL_law_722 (by decide) ?_
  refine lv_iadd hx hb dL_law_723 ?_
  refine va_sld hx hb hX hbl hbA hS in4 dL_law_724 ?_
  refine lv_i2l hx hb dL_law_725 rfl ?_
  refine lv_ldc2 (v := 4294967295) hx hb hown hcl dL_law_726 ?_
  refine lv_land hx hb dL_law_729 ?_
  refine lv_lor hx hb dL_law_730 ?_
  refine lv_aload_n hx hb dL_law_731 rfl (lv_at hl 3 rfl) ?_
  refine lv_iload_n hx hb dL_law_732 rfl (lv_at hl 0 rfl) ?_
  refine lv_iconst (v := 5) hx hb dL_law_733 (by decide) ?_
  refine lv_iadd hx hb dL_law_734 ?_
  refine va_sld hx hb hX hbl hbA hS in5 dL_law_735 ?_
  refine lc_Vi (w := ql_mw g am cI cZ cJ) (rest := [.int r]) C0 (c_X11_walk l dC dI g am cI cZ cJ 1000 z (xs (ii i + 1).toNatClampNeg) (xs (ii i + 2).toNatClampNeg) (((xs (ii i + 3).toNatClampNeg).toInt64 <<< ((32 : Int32).toInt64 &&& 63)) ||| ((xs (ii i + 4).toNatClampNeg).toInt64 &&& 4294967295)) (xs (ii i + 5).toNatClampNeg) (r, z') e2) (cwV 4 hts gL_law_X11_walk rfl rfl rfl qv_X11_walk ⟨Nat.le_of_ble_eq_true rfl, Nat.le_of_ble_eq_true rfl⟩) (hK.sub [0, 5, 1] rfl) (va_recv hK.1 hPm (ci := 11) (q0 := 0) rfl rfl) hPm hDm hPc hap.sy hS hfz hl.1 rfl rfl (Nat.le_of_ble_eq_true rfl) dL_law_736 (fun H locs hPm hDm hPc hap hS => ?_)
  have hap := hap.sy
  refine lv_icmp_eq (tgt := 804) hx hb dL_law_739 (by decide) (fun _ => ?_) (fun cz => absurd rfl cz)
  exact kk (v', u.2) z' _ _ (RR_f R f1 f2) ⟨hPc, hDc, hPm, hDm, hap, hS⟩
set_option maxHeartbeats 4000000 in
set_option maxRecDepth 100000 in
theorem lw_c16 (C0 : ql_C p s m #[Value.ref b] meth c code 4 ret wsL_law RL (dC, dI) (lw_tys cI cJ cB cP cQ cZ) (lw_A s)) (hE : ql_E adK adV (lw_A s) s s.heap) (hX : va_X b L xs s s.heap) (hbl : b < s.heap.size) (hi : i + 6 ≤ L) (hL : L ≤ 3072) (R : RR u z) (hW : lw_Wd s dC dI h ad aR adr aG adg aX adx aT kd cI cJ cB cP cQ cZ g am u z H locs) (hl : lv_has ls 4 [(3, .int (ii i)), (2, .ref g), (1, .ref h), (0, .ref b)])
    (kk : ∀ (u' : ql_U) (z' : ql_Z) (H1 : Heap) (locs1 : List Loc), RR u' z' → lw_Wd s dC dI h ad aR adr aG adg aX adx aT kd cI cJ cB cP cQ cZ g am u' z' H1 locs1 → W p l e room_1 s m #[Value.ref b] below meth c H1 locs1 600000 7302250 (lw_Z below #[Value.ref b] s) (F0 m 804 ls [])) : W p l e room_1 s m #[Value.ref b] below meth c H locs 600000 7302250 (lw_Z below #[Value.ref b] s) (F0 m 744 ls []) := by
  obtain ⟨hx, hb, hr, hml, hown, hts, hlocks, hK, hA⟩ := id C0
  obtain ⟨hPc, hDc, hPm, hDm, hap, hS⟩ := hW
  have hbA : ¬ lw_A s b := Nat.not_le.mpr hbl
  have hfz : 600000 ≤ room_1.cells ∧ 7302250 ≤ room_1.slots := ⟨Nat.le_of_ble_eq_true rfl, Nat.le_of_ble_eq_true rfl⟩
  have in1 : vp_in (ii i + 1) L := lw_in (k := 1) hi hL (by omega) rfl
  obtain ⟨r, v', z', e1, e2, f1⟩ := e_size (N := 1000) (by omega) R (xs (ii i + 1).toNatClampNeg)
  refine lv_aload_n hx hb dL_law_744 rfl (lv_at hl 2 rfl) ?_
  refine lv_aload_n hx hb dL_law_745 rfl (lv_at hl 3 rfl) ?_
  refine lv_iload_n hx hb dL_law_746 rfl (lv_at hl 0 rfl) ?_
  refine lv_iconst (v := 1) hx hb dL_law_747 (by decide) ?_
  refine lv_iadd hx hb dL_law_748 ?_
  refine va_sld hx hb hX hbl hbA hS in1 dL_law_749 ?_
  refine lc_Vi (w := ql_cw h ad aR adr aG adg aX adx aT kd cI cJ cB cP cQ u.2.2 u.2.1) (rest := []) C0 (c_X10_size l dC dI h ad aR adr aG adg aX adx aT kd cI cJ cB cP cQ u.2.2 1000 u.2.1 u.1 (xs (ii i + 1).toNatClampNeg) (r, v') e1) (cwV 1 hts gL_law_X10_size rfl rfl rfl qv_X10_size ⟨Nat.le_of_ble_eq_true rfl, Nat.le_of_ble_eq_true rfl⟩) (hK.sub [0, 1, 2, 3, 4] rfl) (va_recv hK.1 hPc (ci := 10) (q0 := 0) rfl rfl) hPc hDc hPm hap hS hfz hl.1 rfl rfl (Nat.le_of_ble_eq_true rfl) dL_law_750 (fun H locs hPc hDc hPm hap hS => ?_)
  refine lv_aload_n hx hb dL_law_753 rfl (lv_at hl 1 rfl) ?_
  refine lv_aload_n hx hb dL_law_754 rfl (lv_at hl 3 rfl) ?_
  refine lv_iload_n hx hb dL_law_755 rfl (lv_at hl 0 rfl) ?_
  refine lv_iconst (v := 1) hx hb dL_law_756 (by decide) ?_
  refine lv_iadd hx hb dL_law_757 ?_
  refine va_sld hx hb hX hbl hbA hS in1 dL_law_758 ?_
  refine lc_Vi (w := ql_mw g am cI cZ cJ) (rest := [.int r]) C0 (c_X11_size l dC dI g am cI cZ cJ 1000 z (xs (ii i + 1).toNatClampNeg) (r, z') e2) (cwV 1 hts gL_law_X11_size rfl rfl rfl qv_X11_size ⟨Nat.le_of_ble_eq_true rfl, Nat.le_of_ble_eq_true rfl⟩) (hK.sub [0, 5, 1] rfl) (va_recv hK.1 hPm (ci := 11) (q0 := 0) rfl rfl) hPm hDm hPc hap.sy hS hfz hl.1 rfl rfl (Nat.le_of_ble_eq_true rfl) dL_law_759 (fun H locs hPm hDm hPc hap hS => ?_)
  have hap := hap.sy
  refine lv_icmp_eq (tgt := 804) hx hb dL_law_762 (by decide) (fun _ => ?_) (fun cz => absurd rfl cz)
  exact kk (v', u.2) z' _ _ f1 ⟨hPc, hDc, hPm, hDm, hap, hS⟩
set_option maxHeartbeats 4000000 in
set_option maxRecDepth 100000 in
theorem lw_c17 (C0 : ql_C p s m #[Value.ref b] meth c code 4 ret wsL_law RL (dC, dI) (lw_tys cI cJ cB cP cQ cZ) (lw_A s)) (hE : ql_E adK adV (lw_A s) s s.heap) (hX : va_X b L xs s s.heap) (hbl : b < s.heap.size) (hi : i + 6 ≤ L) (hL : L ≤ 3072) (R : RR u z) (hW : lw_Wd s dC dI h ad aR adr aG adg aX adx aT kd cI cJ cB cP cQ cZ g am u z H locs) (hl : lv_has ls 4 [(3, .int (ii i)), (2, .ref g), (1, .ref h), (0, .ref b)])
    (kk : ∀ (u' : ql_U) (z' : ql_Z) (H1 : Heap) (locs1 : List Loc), RR u' z' → lw_Wd s dC dI h ad aR adr aG adg aX adx aT kd cI cJ cB cP cQ cZ g am u' z' H1 locs1 → W p l e room_1 s m #[Value.ref b] below meth c H1 locs1 600000 7302250 (lw_Z below #[Value.ref b] s) (F0 m 804 ls [])) : W p l e room_1 s m #[Value.ref b] below meth c H locs 600000 7302250 (lw_Z below #[Value.ref b] s) (F0 m 767 ls []) := by
  obtain ⟨hx, hb, hr, hml, hown, hts, hlocks, hK, hA⟩ := id C0
  obtain ⟨hPc, hDc, hPm, hDm, hap, hS⟩ := hW
  have hbA : ¬ lw_A s b := Nat.not_le.mpr hbl
  have hfz : 600000 ≤ room_1.cells ∧ 7302250 ≤ room_1.slots := ⟨Nat.le_of_ble_eq_true rfl, Nat.le_of_ble_eq_true rfl⟩
  have in1 : vp_in (ii i + 1) L := lw_in (k := 1) hi hL (by omega) rfl
  have htx : u.1.1 1 0 = z.1 2 0 := by obtain ⟨L0, b0, _, t1, t2, _⟩ := R.2.2.1; rw [t1, t2]
  obtain ⟨r, e1, e2⟩ := e_count (N := 1000) (v := u.1) (by omega) R.1 htx (xs (ii i + 1).toNatClampNeg)
  refine lv_aload_n hx hb dL_law_767 rfl (lv_at hl 2 rfl) ?_
  refine lv_aload_n hx hb dL_law_768 rfl (lv_at hl 3 rfl) ?_
  refine lv_iload_n hx hb dL_law_769 rfl (lv_at hl 0 rfl) ?_
  refine lv_iconst (v := 1) hx hb dL_law_770 (by decide) ?_
  refine lv_iadd hx hb dL_law_771 ?_
  refine va_sld hx hb hX hbl hbA hS in1 dL_law_772 ?_
  refine lc_Ri (rest := []) C0 (c_X10_count l dC dI h ad aR adr aG adg aX adx aT kd cI cJ cB cP cQ u.2.2 1000 u.2.1 u.1 (xs (ii i + 1).toNatClampNeg) r e1) (cwV 1 hts gL_law_X10_count rfl rfl rfl qv_X10_count ⟨Nat.le_of_ble_eq_true rfl, Nat.le_of_ble_eq_true rfl⟩) (va_recv hK.1 hPc (ci := 10) (q0 := 0) rfl rfl) (hK.sub [0, 1, 2, 3, 4] rfl) hPc hS hfz hl.1 rfl rfl (Nat.le_of_ble_eq_true rfl) dL_law_773 (fun H1 locs1 hk hS => ?_)
  have hPc := ql_keep hPc hk
  have hPm := ql_keep hPm hk
  refine lv_aload_n hx hb dL_law_776 rfl (lv_at hl 1 rfl) ?_
  refine lv_aload_n hx hb dL_law_777 rfl (lv_at hl 3 rfl) ?_
  refine lv_iload_n hx hb dL_law_778 rfl (lv_at hl 0 rfl) ?_
  refine lv_iconst (v := 1) hx hb dL_law_779 (by decide) ?_
  refine lv_iadd hx hb dL_law_780 ?_
  refine va_sld hx hb hX hbl hbA hS in1 dL_law_781 ?_
  refine lc_Ri (rest := [.int r]) C0 (c_X11_count l dC dI g am cI cZ cJ 1000 z (xs (ii i + 1).toNatClampNeg) r e2) (cwV 1 hts gL_law_X11_count rfl rfl rfl qv_X11_count ⟨Nat.le_of_ble_eq_true rfl, Nat.le_of_ble_eq_true rfl⟩) (va_recv hK.1 hPm (ci := 11) (q0 := 0) rfl rfl) (hK.sub [0, 5, 1] rfl) hPm hS hfz hl.1 rfl rfl (Nat.le_of_ble_eq_true rfl) dL_law_782 (fun H1 locs1 hk hS => ?_)
  have hPc := ql_keep hPc hk
  have hPm := ql_keep hPm hk
  refine lv_icmp_eq (tgt := 804) hx hb dL_law_785 (by decide) (fun _ => ?_) (fun cz => absurd rfl cz)
  exact kk u z _ _ R ⟨hPc, hDc, hPm, hDm, hap, hS⟩
set_option maxHeartbeats 4000000 in
set_option maxRecDepth 100000 in
theorem lw_c18 (C0 : ql_C p s m #[Value.ref b] meth c code 4 ret wsL_law RL (dC, dI) (lw_tys cI cJ cB cP cQ cZ) (lw_A s)) (hE : ql_E adK adV (lw_A s) s s.heap) (hX : va_X b L xs s s.heap) (hbl : b < s.heap.size) (hi : i + 6 ≤ L) (hL : L ≤ 3072) (R : RR u z) (hW : lw_Wd s dC dI h ad aR adr aG adg aX adx aT kd cI cJ cB cP cQ cZ g am u z H locs) (hl : lv_has ls 4 [(3, .int (ii i)), (2, .ref g), (1, .ref h), (0, .ref b)])
    (kk : ∀ (u' : ql_U) (z' : ql_Z) (H1 : Heap) (locs1 : List Loc), RR u' z' → lw_Wd s dC dI h ad aR adr aG adg aX adx aT kd cI cJ cB cP cQ cZ g am u' z' H1 locs1 → W p l e room_1 s m #[Value.ref b] below meth c H1 locs1 600000 7302250 (lw_Z below #[Value.ref b] s) (F0 m 804 ls [])) : W p l e room_1 s m #[Value.ref b] below meth c H locs 600000 7302250 (lw_Z below #[Value.ref b] s) (F0 m 790 ls []) := by
  obtain ⟨hx, hb, hr, hml, hown, hts, hlocks, hK, hA⟩ := id C0
  obtain ⟨hPc, hDc, hPm, hDm, hap, hS⟩ := hW
  have hbA : ¬ lw_A s b := Nat.not_le.mpr hbl
  have hfz : 600000 ≤ room_1.cells ∧ 7302250 ≤ room_1.slots := ⟨Nat.le_of_ble_eq_true rfl, Nat.le_of_ble_eq_true rfl⟩
  obtain ⟨r, e1, e2⟩ := e_trace (N := 1000) R
  refine lv_aload_n hx hb dL_law_790 rfl (lv_at hl 2 rfl) ?_
  refine lc_Rl (rest := []) C0 (c_X10_trace l dC dI h ad aR adr aG adg aX adx aT kd cI cJ cB cP cQ u.2.2 1000 u.2.1 u.1 r e1) (cwV 0 hts gL_law_X10_trace rfl rfl rfl qv_X10_trace ⟨Nat.le_of_ble_eq_true rfl, Nat.le_of_ble_eq_true rfl⟩) (va_recv hK.1 hPc (ci := 10) (q0 := 0) rfl rfl) (hK.sub [0, 1, 2, 3, 4] rfl) hPc hS hfz hl.1 rfl rfl (Nat.le_of_ble_eq_true rfl) dL_law_791 (fun H1 locs1 hk hS => ?_)
  have hPc := ql_keep hPc hk
  have hPm := ql_keep hPm hk
  refine lv_aload_n hx hb dL_law_794 rfl (lv_at hl 1 rfl) ?_
  refine lc_Rl (rest := [.long r]) C0 (c_X11_trace l dC dI g am cI cZ cJ 1000 z r e2) (cwV 0 hts gL_law_X11_trace rfl rfl rfl qv_X11_trace ⟨Nat.le_of_ble_eq_true rfl, Nat.le_of_ble_eq_true rfl⟩) (va_recv hK.1 hPm (ci := 11) (q0 := 0) rfl rfl) (hK.sub [0, 5, 1] rfl) hPm hS hfz hl.1 rfl rfl (Nat.le_of_ble_eq_true rfl) dL_law_795 (fun H1 locs1 hk hS => ?_)
  have hPc := ql_keep hPc hk
  have hPm := ql_keep hPm hk
  refine W.lcmp hx hb dL_law_798 ?_
  refine lv_if_eq (tgt := 804) hx hb dL_law_799 (by decide) (fun _ => ?_) (fun cz => absurd ((lc_eq r r).mpr rfl) cz)
  exact kk u z _ _ R ⟨hPc, hDc, hPm, hDm, hap, hS⟩
end LW
