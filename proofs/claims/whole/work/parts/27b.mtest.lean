/-! the reference's reading of tests -/
theorem mt_eq {t s : Nat} (ht : t < 25) (h2 : 2 ≤ s) (hs : s ≤ 24) : ii (mt t) = ii s ↔ t = s - 2 := by
  have hm : mt t < 100 := by unfold mt; by_cases a : t = 23; rw [if_pos a]; omega; rw [if_neg a]; by_cases b : t = 24; rw [if_pos b]; omega; rw [if_neg b]; omega
  rw [ii_eq (by omega) (by omega)]
  unfold mt
  by_cases a : t = 23
  · rw [if_pos a]; omega
  · rw [if_neg a]
    by_cases b : t = 24
    · rw [if_pos b]; omega
    · rw [if_neg b]; omega
def nt : Nat → Nat → Nat
  | 0, v => v
  | j + 1, v => nt j (15 - v)
theorem nt_lt : ∀ j v, v < 16 → nt j v < 16
  | 0, _, h => h
  | j + 1, v, h => nt_lt j (15 - v) (by omega)
theorem xor15 {v : Nat} (h : v < 16) : ii v ^^^ ii 15 = ii (15 - v) := by
  have t : ∀ v : Fin 16, ii v.1 ^^^ ii 15 = ii (15 - v.1) := by decide +kernel
  exact t ⟨v, h⟩
/-- stacks: all but those rows as they were, and those rows below vb, wb -/
def ft (z z' : ql_Z) (vb wb : Nat) : Prop := (∀ s, (s < 14 ∨ 21 < s) → z'.1 s = z.1 s) ∧ z'.2 = z.2 ∧ (∀ q, q < vb → z'.1 17 q = z.1 17 q) ∧ ∀ q, q < wb → z'.1 18 q = z.1 18 q
theorem ft_t {z z' z'' : ql_Z} {v w v' w' : Nat} (h : ft z z' v w) (h' : ft z' z'' v' w') (hv : v ≤ v') (hw : w ≤ w') : ft z z'' v w :=
  ⟨fun s a => (h'.1 s a).trans (h.1 s a), h'.2.1.trans h.2.1, fun q hq => (h'.2.2.1 q (by omega)).trans (h.2.2.1 q hq), fun q hq => (h'.2.2.2 q (by omega)).trans (h.2.2.2 q hq)⟩
theorem ft_l {z z' : ql_Z} {v w v' w' : Nat} (h : ft z z' v w) (hv : v' ≤ v) (hw : w' ≤ w) : ft z z' v' w' :=
  ⟨h.1, h.2.1, fun q hq => h.2.2.1 q (by omega), fun q hq => h.2.2.2 q (by omega)⟩
def tq (b : Nat → Nat) (L : Nat) (tk bg nx : Nat → Nat) (z : ql_Z) (k vm wm op : Nat) : Prop :=
  mtx z.1 b L ∧ z.1 14 0 = ii (nx k) ∧ z.1 15 0 = ii (mt (tk k)) ∧ z.1 16 0 = ii (bg k) ∧ z.1 19 0 = ii vm ∧ z.1 20 0 = ii wm ∧ z.1 21 0 = ii op
section
variable {N L c : Nat} {b tk bg nx : Nat → Nat}
theorem m_scan1 (hN : 1000 ≤ N) (ht : ts b L tk bg nx c) {z : ql_Z} {k : Nat} (hm : mtx z.1 b L) (h14 : z.1 14 0 = ii (nx k)) (hk : k < c) : ∃ z', f_X11_scans N z = some z' ∧ fs z z' ∧ z'.1 14 0 = ii (nx (k + 1)) ∧ z'.1 15 0 = ii (mt (tk (k + 1))) ∧ z'.1 16 0 = ii (bg (k + 1)) := by
  have l := ht.1 (k + 1) (by omega)
  rw [if_neg (by omega), show k + 1 - 1 = k by omega] at l
  have hp : nx k ≤ L := Nat.le_trans l.1.1 l.1.2.1
  obtain ⟨z', s, e, t, a1, a2, a3, a4, a5, a6⟩ := m_scans hN hm h14 hp
  obtain ⟨u1, u2, u3⟩ := lx_u a3 l
  subst u1; subst u2; subst u3
  exact ⟨z', a1, a2, a4, a5, a6⟩
theorem m_tscan (hN : 1000 ≤ N) (ht : ts b L tk bg nx c) {z : ql_Z} {k vm wm op : Nat} (h : tq b L tk bg nx z k vm wm op) (hk : k < c) : ∃ z', f_X11_scans N z = some z' ∧ tq b L tk bg nx z' (k + 1) vm wm op ∧ z'.1 17 = z.1 17 ∧ z'.1 18 = z.1 18 ∧ ft z z' vm wm := by
  obtain ⟨z', a1, a2, a3, a4, a5⟩ := m_scan1 hN ht h.1 h.2.1 hk
  have e17 := a2.1 17 (by decide) (by decide) (by decide)
  have e18 := a2.1 18 (by decide) (by decide) (by decide)
  refine ⟨z', a1, ⟨mtx_f h.1 a2, a3, a4, a5, ?_, ?_, ?_⟩, e17, e18, ⟨fun s hs => a2.1 s (by omega) (by omega) (by omega), a2.2, fun q _ => by rw [e17], fun q _ => by rw [e18]⟩⟩
  · rw [a2.1 19 (by decide) (by decide) (by decide)]; exact h.2.2.2.2.1
  · rw [a2.1 20 (by decide) (by decide) (by decide)]; exact h.2.2.2.2.2.1
  · rw [a2.1 21 (by decide) (by decide) (by decide)]; exact h.2.2.2.2.2.2
/-- turns: the NOTs on top -/
theorem m_turns (hN : 1000 ≤ N) {k vm w0 : Nat} (hvm : vm < 310) : ∀ j op v m (z : ql_Z), w0 + j < 310 → j ≤ op → op < 1000 → j + 1 ≤ m → v < 16 → tq b L tk bg nx z k (vm + 1) (w0 + j) op → z.1 17 vm = ii v → (∀ q, w0 ≤ q → q < w0 + j → z.1 18 q = ii 22) → (w0 = 0 ∨ z.1 18 (w0 - 1) ≠ ii 22) →
    ∃ z', f_X11_turns_0 N m z = some z' ∧ tq b L tk bg nx z' k (vm + 1) w0 (op - j) ∧ z'.1 17 vm = ii (nt j v) ∧ z'.1 18 = z.1 18 ∧ ft z z' vm w0 := by
  intro j
  induction j with
  | zero =>
    intro op v m z hw hop hop2 hm hv h h17 hn h0
    obtain ⟨m, rfl⟩ : ∃ j, m = j + 1 := ⟨m - 1, by omega⟩
    refine ⟨z, ?_, by rw [Nat.sub_zero]; exact h, h17, rfl, ⟨fun _ _ => rfl, rfl, fun _ _ => rfl, fun _ _ => rfl⟩⟩
    rw [f_X11_turns_0, h.2.2.2.2.2.1]
    by_cases c : w0 = 0
    · subst c
      exact sp (le_y (a := 0) 0 (by omega) (by omega)) rfl
    · rcases h0 with h0 | h0
      · omega
      · rw [lk_1, Nat.add_zero, ii_sub (by omega), ii_nat (by omega)]
        exact sn (le_n 0 (by omega) (by omega)) (sp (ii_ib (by omega) (by omega)) (sn h0 rfl))
  | succ j ih =>
    intro op v m z hw hop hop2 hm hv h h17 hn h0
    obtain ⟨m, rfl⟩ : ∃ j, m = j + 1 := ⟨m - 1, by omega⟩
    have top := hn (w0 + j) (by omega) (by omega)
    have h' : tq b L tk bg nx (ql_up (ql_up (ql_up z.1 17 (upd (z.1 17) vm (ii (15 - v)))) 20 (fun _ => ii (w0 + j))) 21 (fun _ => ii (op - 1)), z.2) k (vm + 1) (w0 + j) (op - 1) := ⟨h.1, h.2.1, h.2.2.1, h.2.2.2.1, h.2.2.2.2.1, rfl, rfl⟩
    obtain ⟨z', a1, a2, a3, a4, a5⟩ := ih (op - 1) (15 - v) m _ (by omega) (by omega) (by omega) (by omega) (by omega) h' (by
      show upd (z.1 17) vm (ii (15 - v)) vm = _
      rw [ud_same]) (fun q h1 h2 => hn q h1 (by omega)) h0
    refine ⟨z', ?_, by rw [show op - (j + 1) = op - 1 - j by omega]; exact a2, a3, a4, ?_⟩
    · have e1 : ii (w0 + (j + 1)) - 1 = ii (w0 + j) := by rw [lk_1, ii_sub (by omega), show w0 + (j + 1) - 1 = w0 + j by omega]
      have e2 : ii (vm + 1) - 1 = ii vm := by rw [lk_1, ii_sub (by omega), show vm + 1 - 1 = vm by omega]
      have e3 : ii op - 1 = ii (op - 1) := by rw [lk_1, ii_sub (by omega)]
      rw [f_X11_turns_0, h.2.2.2.2.2.1, h.2.2.2.2.1, h.2.2.2.2.2.2, e1, e2, e3, ii_nat (show w0 + j < 2147483648 by omega), ii_nat (show vm < 2147483648 by omega), top, h17, lk_15, xor15 hv, ← a1]
      exact sn (le_n 0 (by omega) (by omega)) (sp (ii_ib (by omega) (by omega)) (sp rfl (sp (ii_ib (by omega) (by omega)) (sp (ii_ib (by omega) (by omega)) rfl))))
    · refine ⟨fun s hs => (a5.1 s hs).trans ?_, a5.2.1, fun q hq => (a5.2.2.1 q hq).trans ?_, fun q hq => a5.2.2.2 q hq⟩
      · exact ((up_ne (S := ql_up (ql_up z.1 17 (upd (z.1 17) vm (ii (15 - v)))) 20 (fun _ => ii (w0 + j))) (k := 21) (by omega)).trans (up_ne (by omega))).trans (up_ne (by omega))
      · show upd (z.1 17) vm (ii (15 - v)) q = z.1 17 q
        rw [ud_ne (by omega)]
/-- works: one operator taken -/
theorem m_wpop {z : ql_Z} {k vm wm op x y o lst m : Nat} (h : tq b L tk bg nx z k (vm + 2) (wm + 1) op) (hv : vm < 308) (hw : wm < 310) (ho : (o = 20 ∨ o = 21)) (hl : lst ≤ o) (htop : z.1 18 wm = ii o) (hx : z.1 17 vm = ii x) (hy : z.1 17 (vm + 1) = ii y) (x16 : x < 16) (y16 : y < 16) :
    ∃ z', f_X11_works_0 N (m + 1) z (ii lst) = f_X11_works_0 N m z' (ii lst) ∧ tq b L tk bg nx z' k (vm + 1) wm op ∧ z'.1 17 vm = ii (if o = 20 then x ||| y else x &&& y) ∧ z'.1 18 = z.1 18 ∧ ft z z' vm wm := by
  refine ⟨(ql_up (ql_up (ql_up z.1 19 (fun _ => ii (vm + 1))) 17 (upd (z.1 17) vm (ii (if o = 20 then x ||| y else x &&& y)))) 20 (fun _ => ii wm), z.2), ?_, ⟨h.1, h.2.1, h.2.2.1, h.2.2.2.1, rfl, rfl, h.2.2.2.2.2.2⟩, ?_, rfl, ⟨fun s hs => ((up_ne (S := ql_up (ql_up z.1 19 (fun _ => ii (vm + 1))) 17 (upd (z.1 17) vm (ii (if o = 20 then x ||| y else x &&& y)))) (k := 20) (by omega)).trans (up_ne (by omega))).trans (up_ne (by omega)), rfl, fun q hq => ?_, fun q _ => rfl⟩⟩
  · have e1 : ii (wm + 1) - 1 = ii wm := by rw [lk_1, ii_sub (by omega), show wm + 1 - 1 = wm by omega]
    have e2 : ii (vm + 2) - 1 = ii (vm + 1) := by rw [lk_1, ii_sub (by omega), show vm + 2 - 1 = vm + 1 by omega]
    have e3 : ii (vm + 2) - 2 = ii vm := by rw [lk_2, ii_sub (by omega), show vm + 2 - 2 = vm by omega]
    have e4 : ii (vm + 1) - 1 = ii vm := by rw [lk_1, ii_sub (by omega), show vm + 1 - 1 = vm by omega]
    have n23 : ¬ ii o = (23 : Int32) := fun q => by have := (ii_eq (b := 23) (show o < 2147483648 by omega) (by omega)).mp q; omega
    have n22 : ¬ ii o = (22 : Int32) := fun q => by have := (ii_eq (b := 22) (show o < 2147483648 by omega) (by omega)).mp q; omega
    have nl : ¬ ii o < ii lst := lt_n lst hl (by omega)
    have ibw : ql_ib (ii wm) 310 = true := ii_ib (by omega) (by omega)
    have e20 : (ql_up z.1 19 (fun _ => ii (vm + 1))) 20 0 = ii (wm + 1) := h.2.2.2.2.2.1
    rw [f_X11_works_0]
    unfold f_X11_works_123
    rw [h.2.2.2.2.2.1, h.2.2.2.2.1, e1, e2, e3, e4, ii_nat (show wm < 2147483648 by omega), ii_nat (show vm < 2147483648 by omega), ii_nat (show vm + 1 < 2147483648 by omega), htop, hx, hy]
    refine sn (le_n 0 (by omega) (by omega)) (sp ibw (sn nl (sp ibw (sn n23 (sp ibw (sn n22 (sp (ii_ib (by omega) (by omega)) (sp (ii_ib (by omega) (by omega)) (sp ibw ?_)))))))))
    have ib : ql_ib (ii vm) 310 = true := ii_ib (by omega) (by omega)
    have e5 : ((ql_up z.1 19 (fun _ => ii (vm + 1)), z.2) : ql_Z).1 20 0 - 1 = ii wm := by
      show (ql_up z.1 19 (fun _ => ii (vm + 1))) 20 0 - 1 = _
      rw [e20, e1]
    rw [e5]
    by_cases c : o = 20
    · subst c
      rw [if_pos rfl, ← ii_or x16 y16]
      exact sp rfl (sp ib rfl)
    · obtain rfl : o = 21 := by omega
      rw [if_neg (show ¬ ((21 : Nat) = 20) by decide), ← ii_and x16 y16]
      exact sn (fun q => by have := (ii_eq (a := 21) (b := 20) (by omega) (by omega)).mp q; omega) (sp ib rfl)
  · show upd (z.1 17) vm _ vm = _
    rw [ud_same]
  · show upd (z.1 17) vm _ q = _
    rw [ud_ne (by omega)]
/-- works: nothing to take -/
theorem m_wstop {z : ql_Z} {k vm wm op lst m : Nat} (h : tq b L tk bg nx z k vm wm op) (hw : wm < 310) (hs : wm = 0 ∨ ∃ o, o < 100 ∧ z.1 18 (wm - 1) = ii o ∧ (o < lst ∨ o = 23)) (hl : lst < 100) : f_X11_works_0 N (m + 1) z (ii lst) = some z := by
  rw [f_X11_works_0, h.2.2.2.2.2.1]
  rcases hs with rfl | ⟨o, ho, e, hc⟩
  · exact sp (le_y (a := 0) 0 (by omega) (by omega)) rfl
  · by_cases c0 : wm = 0
    · subst c0
      exact sp (le_y (a := 0) 0 (by omega) (by omega)) rfl
    · have e1 : ii wm - 1 = ii (wm - 1) := by rw [lk_1, ii_sub (by omega)]
      rw [e1, ii_nat (by omega), e]
      refine sn (le_n 0 (by omega) (by omega)) (sp (ii_ib (by omega) (by omega)) ?_)
      by_cases c1 : o < lst
      · exact sp (lt_y lst c1 (by omega)) rfl
      · refine sn (lt_n lst (by omega) (by omega)) (sp (ii_ib (by omega) (by omega)) (sp ?_ rfl))
        rcases hc with hc | hc
        · omega
        · rw [hc]; rfl
end
