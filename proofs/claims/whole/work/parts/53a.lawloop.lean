/-! the law's loop -/
theorem lw_lt {i L : Nat} (hL : L ≤ 3072) (hi : ¬ i + 6 ≤ L) (hiL : i ≤ L) : ii L - 6 < ii i := by
  by_cases q : 6 ≤ L
  · have e : ii L - 6 = ii (L - 6) := by
      show ii L - ii 6 = _
      rw [ii_sub q]
    rw [e]
    exact lt_y i (by omega) (by omega)
  · have e : ii L - 6 = -ii (6 - L) := by
      rcases (by omega : L = 0 ∨ L = 1 ∨ L = 2 ∨ L = 3 ∨ L = 4 ∨ L = 5) with rfl | rfl | rfl | rfl | rfl | rfl <;> decide
    rw [e, ni_lt_ii (by omega) (by omega)]
    omega
section LW
variable {p : Program} {l : Launch} {e : Env} {s : State} {m : MethodId} {below : List Frame} {meth : Method} {c : Code} {dC : Nat → ClassId} {dI : Nat → Nat → Nat} {cI cJ cB cP cQ cZ : ClassId} {b L : Nat} {xs : Nat → Int32} {h g : Nat} {ad am : Nat → Nat} {aR : Nat} {adr : Nat → Nat} {aG : Nat} {adg : Nat → Nat} {aX : Nat} {adx : Nat → Nat} {aT : Nat} {kd adK adV : Nat → Nat}
set_option maxHeartbeats 4000000 in
set_option maxRecDepth 100000 in
theorem lw_loop (C0 : ql_C p s m #[Value.ref b] meth c code 4 ret wsL_law RL (dC, dI) (lw_tys cI cJ cB cP cQ cZ) (lw_A s)) (hE : ql_E adK adV (lw_A s) s s.heap) (hX : va_X b L xs s s.heap) (hbl : b < s.heap.size) (hL : L ≤ 3072) :
    ∀ (n i : Nat) (u : ql_U) (z : ql_Z) (H : Heap) (locs : List Loc) (ls : Array Slot), L + 1 ≤ i + n → i ≤ L → RR u z → lw_Wd s dC dI h ad aR adr aG adg aX adx aT kd cI cJ cB cP cQ cZ g am u z H locs → lv_has ls 4 [(3, .int (ii i)), (2, .ref g), (1, .ref h), (0, .ref b)] → W p l e room_1 s m #[Value.ref b] below meth c H locs 600000 7302250 (lw_Z below #[Value.ref b] s) (F0 m 18 ls []) := by
  obtain ⟨hx, hb, hr, hml, hown, hts, hlocks, hK, hA⟩ := id C0
  have hbA : ¬ lw_A s b := Nat.not_le.mpr hbl
  intro n
  induction n with
  | zero => intro i u z H locs ls h1 h2; exact absurd h1 (by omega)
  | succ n ih =>
    intro i u z H locs ls h1 h2 R hW hl
    have hS := hW.2.2.2.2.2
    refine lv_iload_n hx hb dL_law_18 rfl (lv_at hl 0 rfl) ?_
    refine lv_aload_n hx hb dL_law_19 rfl (lv_at hl 3 rfl) ?_
    refine va_slen hx hb hX hbl hbA hS dL_law_20 ?_
    refine lv_bipush (v := 6) hx hb dL_law_21 (by decide) ?_
    refine lv_isub hx hb dL_law_23 ?_
    refine lv_icmp_gt (tgt := 810) hx hb dL_law_24 (by decide) (fun c1 => ?_) (fun c1 => ?_)
    · refine lv_iconst (v := 1) hx hb dL_law_810 (by decide) ?_
      refine va_forget (fun q hq => hS.2.2 q hq) ?_
      exact lw_ret hx hb hr hlocks dL_law_811
    · have hi : i + 6 ≤ L := by
        by_cases q : i + 6 ≤ L
        · exact q
        · exact absurd (lw_lt hL q h2) c1
      have back : ∀ (u' : ql_U) (z' : ql_Z) (H1 : Heap) (locs1 : List Loc), RR u' z' → lw_Wd s dC dI h ad aR adr aG adg aX adx aT kd cI cJ cB cP cQ cZ g am u' z' H1 locs1 → W p l e room_1 s m #[Value.ref b] below meth c H1 locs1 600000 7302250 (lw_Z below #[Value.ref b] s) (F0 m 804 ls []) := fun u' z' H1 locs1 R' W' => by
        have ev : ii i + Int32.ofInt 6 = ii (i + 6) := by
          show ii i + ii 6 = _
          rw [ii_add]
        refine lv_iinc (v := ii (i + 6)) (lv' := [(3, .int (ii (i + 6))), (2, .ref g), (1, .ref h), (0, .ref b)]) hx hb dL_law_804 hl (k := 0) rfl ev (by decide) rfl (fun ls hl => ?_)
        refine lv_goto (tgt := 18) hx hb dL_law_807 (by decide) ?_
        exact ih (i + 6) u' z' H1 locs1 ls (by omega) hi R' W' hl
      refine lv_aload_n hx hb dL_law_27 rfl (lv_at hl 3 rfl) ?_
      refine lv_iload_n hx hb dL_law_28 rfl (lv_at hl 0 rfl) ?_
      refine va_sld hx hb hX hbl hbA hS (lw_in0 hi hL) dL_law_29 ?_
      refine lv_bipush (v := 31) hx hb dL_law_30 (by decide) ?_
      refine lv_iand hx hb dL_law_32 ?_
      refine lv_topi (fun v ev => ?_)
      clear ev c1
      by_cases c0 : v = 0
      · refine lv_tableIn (tgt := 124) (off := 91) hx hb dL_law_33 (by rw [c0]; decide) (by rw [c0]; decide) (by rw [c0]; rfl) (by decide) ?_
        exact lw_c0 C0 hE hX hbl hi hL R hW hl back
      by_cases c1 : v = 1
      · refine lv_tableIn (tgt := 187) (off := 154) hx hb dL_law_33 (by rw [c1]; decide) (by rw [c1]; decide) (by rw [c1]; rfl) (by decide) ?_
        exact lw_c1 C0 hE hX hbl hi hL R hW hl back
      by_cases c2 : v = 2
      · refine lv_tableIn (tgt := 200) (off := 167) hx hb dL_law_33 (by rw [c2]; decide) (by rw [c2]; decide) (by rw [c2]; rfl) (by decide) ?_
        exact lw_c2 C0 hE hX hbl hi hL R hW hl back
      by_cases c3 : v = 3
      · refine lv_tableIn (tgt := 223) (off := 190) hx hb dL_law_33 (by rw [c3]; decide) (by rw [c3]; decide) (by rw [c3]; rfl) (by decide) ?_
        exact lw_c3 C0 hE hX hbl hi hL R hW hl back
      by_cases c4 : v = 4
      · refine lv_tableIn (tgt := 276) (off := 243) hx hb dL_law_33 (by rw [c4]; decide) (by rw [c4]; decide) (by rw [c4]; rfl) (by decide) ?_
        exact lw_c4 C0 hE hX hbl hi hL R hW hl back
      by_cases c5 : v = 5
      · refine lv_tableIn (tgt := 309) (off := 276) hx hb dL_law_33 (by rw [c5]; decide) (by rw [c5]; decide) (by rw [c5]; rfl) (by decide) ?_
        exact lw_c5 C0 hE hX hbl hi hL R hW hl back
      by_cases c6 : v = 6
      · refine lv_tableIn (tgt := 342) (off := 309) hx hb dL_law_33 (by rw [c6]; decide) (by rw [c6]; decide) (by rw [c6]; rfl) (by decide) ?_
        exact lw_c6 C0 hE hX hbl hi hL R hW hl back
      by_cases c7 : v = 7
      · refine lv_tableIn (tgt := 376) (off := 343) hx hb dL_law_33 (by rw [c7]; decide) (by rw [c7]; decide) (by rw [c7]; rfl) (by decide) ?_
        exact lw_c7 C0 hE hX hbl hi hL R hW hl back
      by_cases c8 : v = 8
      · refine lv_tableIn (tgt := 409) (off := 376) hx hb dL_law_33 (by rw [c8]; decide) (by rw [c8]; decide) (by rw [c8]; rfl) (by decide) ?_
        exact lw_c8 C0 hE hX hbl hi hL R hW hl back
      by_cases c9 : v = 9
      · refine lv_tableIn (tgt := 442) (off := 409) hx hb dL_law_33 (by rw [c9]; decide) (by rw [c9]; decide) (by rw [c9]; rfl) (by decide) ?_
        exact lw_c9 C0 hE hX hbl hi hL R hW hl back
      by_cases c10 : v = 10
      · refine lv_tableIn (tgt := 465) (off := 432) hx hb dL_law_33 (by rw [c10]; decide) (by rw [c10]; decide) (by rw [c10]; rfl) (by decide) ?_
        exact lw_c10 C0 hE hX hbl hi hL R hW hl back
      by_cases c11 : v = 11
      · refine lv_tableIn (tgt := 488) (off := 455) hx hb dL_law_33 (by rw [c11]; decide) (by rw [c11]; decide) (by rw [c11]; rfl) (by decide) ?_
        exact lw_c11 C0 hE hX hbl hi hL R hW hl back
      by_cases c12 : v = 12
      · refine lv_tableIn (tgt := 521) (off := 488) hx hb dL_law_33 (by rw [c12]; decide) (by rw [c12]; decide) (by rw [c12]; rfl) (by decide) ?_
        exact lw_c12 C0 hE hX hbl hi hL R hW hl back
      by_cases c13 : v = 13
      · refine lv_tableIn (tgt := 554) (off := 521) hx hb dL_law_33 (by rw [c13]; decide) (by rw [c13]; decide) (by rw [c13]; rfl) (by decide) ?_
        exact lw_c13 C0 hE hX hbl hi hL R hW hl back
      by_cases c14 : v = 14
      · refine lv_tableIn (tgt := 588) (off := 555) hx hb dL_law_33 (by rw [c14]; decide) (by rw [c14]; decide) (by rw [c14]; rfl) (by decide) ?_
        exact lw_c14 C0 hE hX hbl hi hL R hW hl back
      by_cases c15 : v = 15
      · refine lv_tableIn (tgt := 661) (off := 628) hx hb dL_law_33 (by rw [c15]; decide) (by rw [c15]; decide) (by rw [c15]; rfl) (by decide) ?_
        exact lw_c15 C0 hE hX hbl hi hL R hW hl back
      by_cases c16 : v = 16
      · refine lv_tableIn (tgt := 744) (off := 711) hx hb dL_law_33 (by rw [c16]; decide) (by rw [c16]; decide) (by rw [c16]; rfl) (by decide) ?_
        exact lw_c16 C0 hE hX hbl hi hL R hW hl back
      by_cases c17 : v = 17
      · refine lv_tableIn (tgt := 767) (off := 734) hx hb dL_law_33 (by rw [c17]; decide) (by rw [c17]; decide) (by rw [c17]; rfl) (by decide) ?_
        exact lw_c17 C0 hE hX hbl hi hL R hW hl back
      by_cases c18 : v = 18
      · refine lv_tableIn (tgt := 790) (off := 757) hx hb dL_law_33 (by rw [c18]; decide) (by rw [c18]; decide) (by rw [c18]; rfl) (by decide) ?_
        exact lw_c18 C0 hE hX hbl hi hL R hW hl back
      have ec0 : v.toInt ≠ 0 := ql_ne (k := 0) c0
      have ec1 : v.toInt ≠ 1 := ql_ne (k := 1) c1
      have ec2 : v.toInt ≠ 2 := ql_ne (k := 2) c2
      have ec3 : v.toInt ≠ 3 := ql_ne (k := 3) c3
      have ec4 : v.toInt ≠ 4 := ql_ne (k := 4) c4
      have ec5 : v.toInt ≠ 5 := ql_ne (k := 5) c5
      have ec6 : v.toInt ≠ 6 := ql_ne (k := 6) c6
      have ec7 : v.toInt ≠ 7 := ql_ne (k := 7) c7
      have ec8 : v.toInt ≠ 8 := ql_ne (k := 8) c8
      have ec9 : v.toInt ≠ 9 := ql_ne (k := 9) c9
      have ec10 : v.toInt ≠ 10 := ql_ne (k := 10) c10
      have ec11 : v.toInt ≠ 11 := ql_ne (k := 11) c11
      have ec12 : v.toInt ≠ 12 := ql_ne (k := 12) c12
      have ec13 : v.toInt ≠ 13 := ql_ne (k := 13) c13
      have ec14 : v.toInt ≠ 14 := ql_ne (k := 14) c14
      have ec15 : v.toInt ≠ 15 := ql_ne (k := 15) c15
      have ec16 : v.toInt ≠ 16 := ql_ne (k := 16) c16
      have ec17 : v.toInt ≠ 17 := ql_ne (k := 17) c17
      have ec18 : v.toInt ≠ 18 := ql_ne (k := 18) c18
      refine lv_tableOut (tgt := 804) hx hb dL_law_33 (by omega) (by decide) ?_
      exact back u z H locs R hW
end LW
