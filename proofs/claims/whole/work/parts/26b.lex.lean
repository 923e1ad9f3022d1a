/-! the reference's words, signs on both sides, letters -/
def vv (b : Nat → Nat) (s : Nat) : Nat → Nat
  | 0 => 0
  | n + 1 => 32 * vv b s n + (b (s + n) - 96)
/-- the token of a word's number -/
def wq (v : Nat) : Nat := if v = 2 then 10 else if v = 3 then 11 else if v = 16 then 12 else if v = 17 then 13 else if v = 18 then 14 else if v = 634160 then 0 else if v = 643568 then 1 else if v = 294 then 2 else if v = 663726 then 3 else if v = 176741 then 4 else if v = 201 then 5 else if v = 24388997 then 6 else if v = 143 then 7 else if v = 484 then 8 else if v = 755156 then 9 else 24
def isl (c : Nat) : Prop := 97 ≤ c ∧ c ≤ 122
/-- columns' letters, one by one -/
theorem wm_1 {b : Nat → Nat} {s t : Nat} : wm b s 1 t = true ↔ wc (t * 6) = b s ∧ wc (t * 6 + 1) = 32 := by
  simp [wm, pm]
theorem wm_2 {b : Nat → Nat} {s t : Nat} : wm b s 2 t = true ↔ (wc (t * 6) = b s ∧ wc (t * 6 + 1) = b (s + 1)) ∧ wc (t * 6 + 2) = 32 := by
  simp [wm, pm]
theorem wm_3 {b : Nat → Nat} {s t : Nat} : wm b s 3 t = true ↔ ((wc (t * 6) = b s ∧ wc (t * 6 + 1) = b (s + 1)) ∧ wc (t * 6 + 2) = b (s + 2)) ∧ wc (t * 6 + 3) = 32 := by
  simp [wm, pm]
theorem wm_4 {b : Nat → Nat} {s t : Nat} : wm b s 4 t = true ↔ (((wc (t * 6) = b s ∧ wc (t * 6 + 1) = b (s + 1)) ∧ wc (t * 6 + 2) = b (s + 2)) ∧ wc (t * 6 + 3) = b (s + 3)) ∧ wc (t * 6 + 4) = 32 := by
  simp [wm, pm]
theorem wm_5 {b : Nat → Nat} {s t : Nat} : wm b s 5 t = true ↔ ((((wc (t * 6) = b s ∧ wc (t * 6 + 1) = b (s + 1)) ∧ wc (t * 6 + 2) = b (s + 2)) ∧ wc (t * 6 + 3) = b (s + 3)) ∧ wc (t * 6 + 4) = b (s + 4)) ∧ wc (t * 6 + 5) = 32 := by
  simp [wm, pm]
theorem wt_s {b : Nat → Nat} {s n f t r : Nat} (P Q : Prop) (hm : wm b s n t = true ↔ P) (hq : P ↔ Q) {_ : Decidable Q} (h : wt b s n f (t + 1) = r) : wt b s n (f + 1) t = if Q then t else r := by
  show (if wm b s n t = true then t else wt b s n f (t + 1)) = _
  by_cases c : Q
  · rw [if_pos c, if_pos (hm.mpr (hq.mpr c))]
  · rw [if_neg c, if_neg (fun x => c (hq.mp (hm.mp x))), h]
theorem wq_k (x : Nat) : (if x = 634160 then 0 else if x = 643568 then 1 else if x = 294 then 2 else if x = 663726 then 3 else if x = 176741 then 4 else if x = 201 then 5 else if x = 24388997 then 6 else if x = 143 then 7 else if x = 484 then 8 else if x = 755156 then 9 else if x = 2 then 10 else if x = 3 then 11 else if x = 16 then 12 else if x = 17 then 13 else if x = 18 then 14 else 24) = (if x = 2 then 10 else if x = 3 then 11 else if x = 16 then 12 else if x = 17 then 13 else if x = 18 then 14 else if x = 634160 then 0 else if x = 643568 then 1 else if x = 294 then 2 else if x = 663726 then 3 else if x = 176741 then 4 else if x = 201 then 5 else if x = 24388997 then 6 else if x = 143 then 7 else if x = 484 then 8 else if x = 755156 then 9 else 24) := by
  by_cases e0 : x = 634160
  · subst e0; rfl
  by_cases e1 : x = 643568
  · subst e1; rfl
  by_cases e2 : x = 294
  · subst e2; rfl
  by_cases e3 : x = 663726
  · subst e3; rfl
  by_cases e4 : x = 176741
  · subst e4; rfl
  by_cases e5 : x = 201
  · subst e5; rfl
  by_cases e6 : x = 24388997
  · subst e6; rfl
  by_cases e7 : x = 143
  · subst e7; rfl
  by_cases e8 : x = 484
  · subst e8; rfl
  by_cases e9 : x = 755156
  · subst e9; rfl
  by_cases e10 : x = 2
  · subst e10; rfl
  by_cases e11 : x = 3
  · subst e11; rfl
  by_cases e12 : x = 16
  · subst e12; rfl
  by_cases e13 : x = 17
  · subst e13; rfl
  by_cases e14 : x = 18
  · subst e14; rfl
  simp only [if_neg e0, if_neg e1, if_neg e2, if_neg e3, if_neg e4, if_neg e5, if_neg e6, if_neg e7, if_neg e8, if_neg e9, if_neg e10, if_neg e11, if_neg e12, if_neg e13, if_neg e14]
theorem wc_0 : wc (0 * 6) = 115 := rfl
theorem wc_1 : wc (0 * 6 + 1) = 107 := rfl
theorem wc_2 : wc (0 * 6 + 2) = 105 := rfl
theorem wc_3 : wc (0 * 6 + 3) = 112 := rfl
theorem wc_4 : wc (0 * 6 + 4) = 32 := rfl
theorem wc_5 : wc (0 * 6 + 5) = 32 := rfl
theorem wc_6 : wc (1 * 6) = 115 := rfl
theorem wc_7 : wc (1 * 6 + 1) = 116 := rfl
theorem wc_8 : wc (1 * 6 + 2) = 111 := rfl
theorem wc_9 : wc (1 * 6 + 3) = 112 := rfl
theorem wc_10 : wc (1 * 6 + 4) = 32 := rfl
theorem wc_11 : wc (1 * 6 + 5) = 32 := rfl
theorem wc_12 : wc (2 * 6) = 105 := rfl
theorem wc_13 : wc (2 * 6 + 1) = 102 := rfl
theorem wc_14 : wc (2 * 6 + 2) = 32 := rfl
theorem wc_15 : wc (2 * 6 + 3) = 32 := rfl
theorem wc_16 : wc (2 * 6 + 4) = 32 := rfl
theorem wc_17 : wc (2 * 6 + 5) = 32 := rfl
theorem wc_18 : wc (3 * 6) = 116 := rfl
theorem wc_19 : wc (3 * 6 + 1) = 104 := rfl
theorem wc_20 : wc (3 * 6 + 2) = 101 := rfl
theorem wc_21 : wc (3 * 6 + 3) = 110 := rfl
theorem wc_22 : wc (3 * 6 + 4) = 32 := rfl
theorem wc_23 : wc (3 * 6 + 5) = 32 := rfl
theorem wc_24 : wc (4 * 6) = 101 := rfl
theorem wc_25 : wc (4 * 6 + 1) = 108 := rfl
theorem wc_26 : wc (4 * 6 + 2) = 115 := rfl
theorem wc_27 : wc (4 * 6 + 3) = 101 := rfl
theorem wc_28 : wc (4 * 6 + 4) = 32 := rfl
theorem wc_29 : wc (4 * 6 + 5) = 32 := rfl
theorem wc_30 : wc (5 * 6) = 102 := rfl
theorem wc_31 : wc (5 * 6 + 1) = 105 := rfl
theorem wc_32 : wc (5 * 6 + 2) = 32 := rfl
theorem wc_33 : wc (5 * 6 + 3) = 32 := rfl
theorem wc_34 : wc (5 * 6 + 4) = 32 := rfl
theorem wc_35 : wc (5 * 6 + 5) = 32 := rfl
theorem wc_36 : wc (6 * 6) = 119 := rfl
theorem wc_37 : wc (6 * 6 + 1) = 104 := rfl
theorem wc_38 : wc (6 * 6 + 2) = 105 := rfl
theorem wc_39 : wc (6 * 6 + 3) = 108 := rfl
theorem wc_40 : wc (6 * 6 + 4) = 101 := rfl
theorem wc_41 : wc (6 * 6 + 5) = 32 := rfl
theorem wc_42 : wc (7 * 6) = 100 := rfl
theorem wc_43 : wc (7 * 6 + 1) = 111 := rfl
theorem wc_44 : wc (7 * 6 + 2) = 32 := rfl
theorem wc_45 : wc (7 * 6 + 3) = 32 := rfl
theorem wc_46 : wc (7 * 6 + 4) = 32 := rfl
theorem wc_47 : wc (7 * 6 + 5) = 32 := rfl
theorem wc_48 : wc (8 * 6) = 111 := rfl
theorem wc_49 : wc (8 * 6 + 1) = 100 := rfl
theorem wc_50 : wc (8 * 6 + 2) = 32 := rfl
theorem wc_51 : wc (8 * 6 + 3) = 32 := rfl
theorem wc_52 : wc (8 * 6 + 4) = 32 := rfl
theorem wc_53 : wc (8 * 6 + 5) = 32 := rfl
theorem wc_54 : wc (9 * 6) = 119 := rfl
theorem wc_55 : wc (9 * 6 + 1) = 97 := rfl
theorem wc_56 : wc (9 * 6 + 2) = 110 := rfl
theorem wc_57 : wc (9 * 6 + 3) = 116 := rfl
theorem wc_58 : wc (9 * 6 + 4) = 32 := rfl
theorem wc_59 : wc (9 * 6 + 5) = 32 := rfl
theorem wc_60 : wc (10 * 6) = 98 := rfl
theorem wc_61 : wc (10 * 6 + 1) = 32 := rfl
theorem wc_62 : wc (10 * 6 + 2) = 32 := rfl
theorem wc_63 : wc (10 * 6 + 3) = 32 := rfl
theorem wc_64 : wc (10 * 6 + 4) = 32 := rfl
theorem wc_65 : wc (10 * 6 + 5) = 32 := rfl
theorem wc_66 : wc (11 * 6) = 99 := rfl
theorem wc_67 : wc (11 * 6 + 1) = 32 := rfl
theorem wc_68 : wc (11 * 6 + 2) = 32 := rfl
theorem wc_69 : wc (11 * 6 + 3) = 32 := rfl
theorem wc_70 : wc (11 * 6 + 4) = 32 := rfl
theorem wc_71 : wc (11 * 6 + 5) = 32 := rfl
theorem wc_72 : wc (12 * 6) = 112 := rfl
theorem wc_73 : wc (12 * 6 + 1) = 32 := rfl
theorem wc_74 : wc (12 * 6 + 2) = 32 := rfl
theorem wc_75 : wc (12 * 6 + 3) = 32 := rfl
theorem wc_76 : wc (12 * 6 + 4) = 32 := rfl
theorem wc_77 : wc (12 * 6 + 5) = 32 := rfl
theorem wc_78 : wc (13 * 6) = 113 := rfl
theorem wc_79 : wc (13 * 6 + 1) = 32 := rfl
theorem wc_80 : wc (13 * 6 + 2) = 32 := rfl
theorem wc_81 : wc (13 * 6 + 3) = 32 := rfl
theorem wc_82 : wc (13 * 6 + 4) = 32 := rfl
theorem wc_83 : wc (13 * 6 + 5) = 32 := rfl
theorem wc_84 : wc (14 * 6) = 114 := rfl
theorem wc_85 : wc (14 * 6 + 1) = 32 := rfl
theorem wc_86 : wc (14 * 6 + 2) = 32 := rfl
theorem wc_87 : wc (14 * 6 + 3) = 32 := rfl
theorem wc_88 : wc (14 * 6 + 4) = 32 := rfl
theorem wc_89 : wc (14 * 6 + 5) = 32 := rfl
theorem wt_q1 {b : Nat → Nat} {s : Nat} (h0 : isl (b s)) : wt b s 1 15 0 = wq (vv b s 1) := by
  obtain ⟨a0, c0⟩ := h0
  have ev : vv b s 1 = (b s - 96) := by
    simp only [vv, Nat.add_zero]; omega
  generalize vv b s 1 = v at ev
  have g15 : wt b s 1 0 15 = 24 := rfl
  have g14 : wt b s 1 1 14 = if v = 18 then 14 else 24 := wt_s _ (v = 18) wm_1 (by rw [wc_84, wc_85]; omega) g15
  have g13 : wt b s 1 2 13 = if v = 17 then 13 else if v = 18 then 14 else 24 := wt_s _ (v = 17) wm_1 (by rw [wc_78, wc_79]; omega) g14
  have g12 : wt b s 1 3 12 = if v = 16 then 12 else if v = 17 then 13 else if v = 18 then 14 else 24 := wt_s _ (v = 16) wm_1 (by rw [wc_72, wc_73]; omega) g13
  have g11 : wt b s 1 4 11 = if v = 3 then 11 else if v = 16 then 12 else if v = 17 then 13 else if v = 18 then 14 else 24 := wt_s _ (v = 3) wm_1 (by rw [wc_66, wc_67]; omega) g12
  have g10 : wt b s 1 5 10 = if v = 2 then 10 else if v = 3 then 11 else if v = 16 then 12 else if v = 17 then 13 else if v = 18 then 14 else 24 := wt_s _ (v = 2) wm_1 (by rw [wc_60, wc_61]; omega) g11
  have g9 : wt b s 1 6 9 = if v = 755156 then 9 else if v = 2 then 10 else if v = 3 then 11 else if v = 16 then 12 else if v = 17 then 13 else if v = 18 then 14 else 24 := wt_s _ (v = 755156) wm_1 (by rw [wc_54, wc_55]; omega) g10
  have g8 : wt b s 1 7 8 = if v = 484 then 8 else if v = 755156 then 9 else if v = 2 then 10 else if v = 3 then 11 else if v = 16 then 12 else if v = 17 then 13 else if v = 18 then 14 else 24 := wt_s _ (v = 484) wm_1 (by rw [wc_48, wc_49]; omega) g9
  have g7 : wt b s 1 8 7 = if v = 143 then 7 else if v = 484 then 8 else if v = 755156 then 9 else if v = 2 then 10 else if v = 3 then 11 else if v = 16 then 12 else if v = 17 then 13 else if v = 18 then 14 else 24 := wt_s _ (v = 143) wm_1 (by rw [wc_42, wc_43]; omega) g8
  have g6 : wt b s 1 9 6 = if v = 24388997 then 6 else if v = 143 then 7 else if v = 484 then 8 else if v = 755156 then 9 else if v = 2 then 10 else if v = 3 then 11 else if v = 16 then 12 else if v = 17 then 13 else if v = 18 then 14 else 24 := wt_s _ (v = 24388997) wm_1 (by rw [wc_36, wc_37]; omega) g7
  have g5 : wt b s 1 10 5 = if v = 201 then 5 else if v = 24388997 then 6 else if v = 143 then 7 else if v = 484 then 8 else if v = 755156 then 9 else if v = 2 then 10 else if v = 3 then 11 else if v = 16 then 12 else if v = 17 then 13 else if v = 18 then 14 else 24 := wt_s _ (v = 201) wm_1 (by rw [wc_30, wc_31]; omega) g6
  have g4 : wt b s 1 11 4 = if v = 176741 then 4 else if v = 201 then 5 else if v = 24388997 then 6 else if v = 143 then 7 else if v = 484 then 8 else if v = 755156 then 9 else if v = 2 then 10 else if v = 3 then 11 else if v = 16 then 12 else if v = 17 then 13 else if v = 18 then 14 else 24 := wt_s _ (v = 176741) wm_1 (by rw [wc_24, wc_25]; omega) g5
  have g3 : wt b s 1 12 3 = if v = 663726 then 3 else if v = 176741 then 4 else if v = 201 then 5 else if v = 24388997 then 6 else if v = 143 then 7 else if v = 484 then 8 else if v = 755156 then 9 else if v = 2 then 10 else if v = 3 then 11 else if v = 16 then 12 else if v = 17 then 13 else if v = 18 then 14 else 24 := wt_s _ (v = 663726) wm_1 (by rw [wc_18, wc_19]; omega) g4
  have g2 : wt b s 1 13 2 = if v = 294 then 2 else if v = 663726 then 3 else if v = 176741 then 4 else if v = 201 then 5 else if v = 24388997 then 6 else if v = 143 then 7 else if v = 484 then 8 else if v = 755156 then 9 else if v = 2 then 10 else if v = 3 then 11 else if v = 16 then 12 else if v = 17 then 13 else if v = 18 then 14 else 24 := wt_s _ (v = 294) wm_1 (by rw [wc_12, wc_13]; omega) g3
  have g1 : wt b s 1 14 1 = if v = 643568 then 1 else if v = 294 then 2 else if v = 663726 then 3 else if v = 176741 then 4 else if v = 201 then 5 else if v = 24388997 then 6 else if v = 143 then 7 else if v = 484 then 8 else if v = 755156 then 9 else if v = 2 then 10 else if v = 3 then 11 else if v = 16 then 12 else if v = 17 then 13 else if v = 18 then 14 else 24 := wt_s _ (v = 643568) wm_1 (by rw [wc_6, wc_7]; omega) g2
  have g0 : wt b s 1 15 0 = if v = 634160 then 0 else if v = 643568 then 1 else if v = 294 then 2 else if v = 663726 then 3 else if v = 176741 then 4 else if v = 201 then 5 else if v = 24388997 then 6 else if v = 143 then 7 else if v = 484 then 8 else if v = 755156 then 9 else if v = 2 then 10 else if v = 3 then 11 else if v = 16 then 12 else if v = 17 then 13 else if v = 18 then 14 else 24 := wt_s _ (v = 634160) wm_1 (by rw [wc_0, wc_1]; omega) g1
  rw [g0]; unfold wq
  have key : ∀ x : Nat, (if x = 634160 then 0 else if x = 643568 then 1 else if x = 294 then 2 else if x = 663726 then 3 else if x = 176741 then 4 else if x = 201 then 5 else if x = 24388997 then 6 else if x = 143 then 7 else if x = 484 then 8 else if x = 755156 then 9 else if x = 2 then 10 else if x = 3 then 11 else if x = 16 then 12 else if x = 17 then 13 else if x = 18 then 14 else 24) = (if x = 2 then 10 else if x = 3 then 11 else if x = 16 then 12 else if x = 17 then 13 else if x = 18 then 14 else if x = 634160 then 0 else if x = 643568 then 1 else if x = 294 then 2 else if x = 663726 then 3 else if x = 176741 then 4 else if x = 201 then 5 else if x = 24388997 then 6 else if x = 143 then 7 else if x = 484 then 8 else if x = 755156 then 9 else 24) := wq_k
  exact key v
theorem wt_q2 {b : Nat → Nat} {s : Nat} (h0 : isl (b s)) (h1 : isl (b (s + 1))) : wt b s 2 15 0 = wq (vv b s 2) := by
  obtain ⟨a0, c0⟩ := h0
  obtain ⟨a1, c1⟩ := h1
  have ev : vv b s 2 = 32 * (b s - 96) + (b (s + 1) - 96) := by
    simp only [vv, Nat.add_zero]; omega
  generalize vv b s 2 = v at ev
  have g15 : wt b s 2 0 15 = 24 := rfl
  have g14 : wt b s 2 1 14 = if v = 18 then 14 else 24 := wt_s _ (v = 18) wm_2 (by rw [wc_84, wc_85, wc_86]; omega) g15
  have g13 : wt b s 2 2 13 = if v = 17 then 13 else if v = 18 then 14 else 24 := wt_s _ (v = 17) wm_2 (by rw [wc_78, wc_79, wc_80]; omega) g14
  have g12 : wt b s 2 3 12 = if v = 16 then 12 else if v = 17 then 13 else if v = 18 then 14 else 24 := wt_s _ (v = 16) wm_2 (by rw [wc_72, wc_73, wc_74]; omega) g13
  have g11 : wt b s 2 4 11 = if v = 3 then 11 else if v = 16 then 12 else if v = 17 then 13 else if v = 18 then 14 else 24 := wt_s _ (v = 3) wm_2 (by rw [wc_66, wc_67, wc_68]; omega) g12
  have g10 : wt b s 2 5 10 = if v = 2 then 10 else if v = 3 then 11 else if v = 16 then 12 else if v = 17 then 13 else if v = 18 then 14 else 24 := wt_s _ (v = 2) wm_2 (by rw [wc_60, wc_61, wc_62]; omega) g11
  have g9 : wt b s 2 6 9 = if v = 755156 then 9 else if v = 2 then 10 else if v = 3 then 11 else if v = 16 then 12 else if v = 17 then 13 else if v = 18 then 14 else 24 := wt_s _ (v = 755156) wm_2 (by rw [wc_54, wc_55, wc_56]; omega) g10
  have g8 : wt b s 2 7 8 = if v = 484 then 8 else if v = 755156 then 9 else if v = 2 then 10 else if v = 3 then 11 else if v = 16 then 12 else if v = 17 then 13 else if v = 18 then 14 else 24 := wt_s _ (v = 484) wm_2 (by rw [wc_48, wc_49, wc_50]; omega) g9
  have g7 : wt b s 2 8 7 = if v = 143 then 7 else if v = 484 then 8 else if v = 755156 then 9 else if v = 2 then 10 else if v = 3 then 11 else if v = 16 then 12 else if v = 17 then 13 else if v = 18 then 14 else 24 := wt_s _ (v = 143) wm_2 (by rw [wc_42, wc_43, wc_44]; omega) g8
  have g6 : wt b s 2 9 6 = if v = 24388997 then 6 else if v = 143 then 7 else if v = 484 then 8 else if v = 755156 then 9 else if v = 2 then 10 else if v = 3 then 11 else if v = 16 then 12 else if v = 17 then 13 else if v = 18 then 14 else 24 := wt_s _ (v = 24388997) wm_2 (by rw [wc_36, wc_37, wc_38]; omega) g7
  have g5 : wt b s 2 10 5 = if v = 201 then 5 else if v = 24388997 then 6 else if v = 143 then 7 else if v = 484 then 8 else if v = 755156 then 9 else if v = 2 then 10 else if v = 3 then 11 else if v = 16 then 12 else if v = 17 then 13 else if v = 18 then 14 else 24 := wt_s _ (v = 201) wm_2 (by rw [wc_30, wc_31, wc_32]; omega) g6
  have g4 : wt b s 2 11 4 = if v = 176741 then 4 else if v = 201 then 5 else if v = 24388997 then 6 else if v = 143 then 7 else if v = 484 then 8 else if v = 755156 then 9 else if v = 2 then 10 else if v = 3 then 11 else if v = 16 then 12 else if v = 17 then 13 else if v = 18 then 14 else 24 := wt_s _ (v = 176741) wm_2 (by rw [wc_24, wc_25, wc_26]; omega) g5
  have g3 : wt b s 2 12 3 = if v = 663726 then 3 else if v = 176741 then 4 else if v = 201 then 5 else if v = 24388997 then 6 else if v = 143 then 7 else if v = 484 then 8 else if v = 755156 then 9 else if v = 2 then 10 else if v = 3 then 11 else if v = 16 then 12 else if v = 17 then 13 else if v = 18 then 14 else 24 := wt_s _ (v = 663726) wm_2 (by rw [wc_18, wc_19, wc_20]; omega) g4
  have g2 : wt b s 2 13 2 = if v = 294 then 2 else if v = 663726 then 3 else if v = 176741 then 4 else if v = 201 then 5 else if v = 24388997 then 6 else if v = 143 then 7 else if v = 484 then 8 else if v = 755156 then 9 else if v = 2 then 10 else if v = 3 then 11 else if v = 16 then 12 else if v = 17 then 13 else if v = 18 then 14 else 24 := wt_s _ (v = 294) wm_2 (by rw [wc_12, wc_13, wc_14]; omega) g3
  have g1 : wt b s 2 14 1 = if v = 643568 then 1 else if v = 294 then 2 else if v = 663726 then 3 else if v = 176741 then 4 else if v = 201 then 5 else if v = 24388997 then 6 else if v = 143 then 7 else if v = 484 then 8 else if v = 755156 then 9 else if v = 2 then 10 else if v = 3 then 11 else if v = 16 then 12 else if v = 17 then 13 else if v = 18 then 14 else 24 := wt_s _ (v = 643568) wm_2 (by rw [wc_6, wc_7, wc_8]; omega) g2
  have g0 : wt b s 2 15 0 = if v = 634160 then 0 else if v = 643568 then 1 else if v = 294 then 2 else if v = 663726 then 3 else if v = 176741 then 4 else if v = 201 then 5 else if v = 24388997 then 6 else if v = 143 then 7 else if v = 484 then 8 else if v = 755156 then 9 else if v = 2 then 10 else if v = 3 then 11 else if v = 16 then 12 else if v = 17 then 13 else if v = 18 then 14 else 24 := wt_s _ (v = 634160) wm_2 (by rw [wc_0, wc_1, wc_2]; omega) g1
  rw [g0]; unfold wq
  have key : ∀ x : Nat, (if x = 634160 then 0 else if x = 643568 then 1 else if x = 294 then 2 else if x = 663726 then 3 else if x = 176741 then 4 else if x = 201 then 5 else if x = 24388997 then 6 else if x = 143 then 7 else if x = 484 then 8 else if x = 755156 then 9 else if x = 2 then 10 else if x = 3 then 11 else if x = 16 then 12 else if x = 17 then 13 else if x = 18 then 14 else 24) = (if x = 2 then 10 else if x = 3 then 11 else if x = 16 then 12 else if x = 17 then 13 else if x = 18 then 14 else if x = 634160 then 0 else if x = 643568 then 1 else if x = 294 then 2 else if x = 663726 then 3 else if x = 176741 then 4 else if x = 201 then 5 else if x = 24388997 then 6 else if x = 143 then 7 else if x = 484 then 8 else if x = 755156 then 9 else 24) := wq_k
  exact key v
theorem wt_q3 {b : Nat → Nat} {s : Nat} (h0 : isl (b s)) (h1 : isl (b (s + 1))) (h2 : isl (b (s + 2))) : wt b s 3 15 0 = wq (vv b s 3) := by
  obtain ⟨a0, c0⟩ := h0
  obtain ⟨a1, c1⟩ := h1
  obtain ⟨a2, c2⟩ := h2
  have ev : vv b s 3 = 1024 * (b s - 96) + 32 * (b (s + 1) - 96) + (b (s + 2) - 96) := by
    simp only [vv, Nat.add_zero]; omega
  generalize vv b s 3 = v at ev
  have g15 : wt b s 3 0 15 = 24 := rfl
  have g14 : wt b s 3 1 14 = if v = 18 then 14 else 24 := wt_s _ (v = 18) wm_3 (by rw [wc_84, wc_85, wc_86, wc_87]; omega) g15
  have g13 : wt b s 3 2 13 = if v = 17 then 13 else if v = 18 then 14 else 24 := wt_s _ (v = 17) wm_3 (by rw [wc_78, wc_79, wc_80, wc_81]; omega) g14
  have g12 : wt b s 3 3 12 = if v = 16 then 12 else if v = 17 then 13 else if v = 18 then 14 else 24 := wt_s _ (v = 16) wm_3 (by rw [wc_72, wc_73, wc_74, wc_75]; omega) g13
  have g11 : wt b s 3 4 11 = if v = 3 then 11 else if v = 16 then 12 else if v = 17 then 13 else if v = 18 then 14 else 24 := wt_s _ (v = 3) wm_3 (by rw [wc_66, wc_67, wc_68, wc_69]; omega) g12
  have g10 : wt b s 3 5 10 = if v = 2 then 10 else if v = 3 then 11 else if v = 16 then 12 else if v = 17 then 13 else if v = 18 then 14 else 24 := wt_s _ (v = 2) wm_3 (by rw [wc_60, wc_61, wc_62, wc_63]; omega) g11
  have g9 : wt b s 3 6 9 = if v = 755156 then 9 else if v = 2 then 10 else if v = 3 then 11 else if v = 16 then 12 else if v = 17 then 13 else if v = 18 then 14 else 24 := wt_s _ (v = 755156) wm_3 (by rw [wc_54, wc_55, wc_56, wc_57]; omega) g10
  have g8 : wt b s 3 7 8 = if v = 484 then 8 else if v = 755156 then 9 else if v = 2 then 10 else if v = 3 then 11 else if v = 16 then 12 else if v = 17 then 13 else if v = 18 then 14 else 24 := wt_s _ (v = 484) wm_3 (by rw [wc_48, wc_49, wc_50, wc_51]; omega) g9
  have g7 : wt b s 3 8 7 = if v = 143 then 7 else if v = 484 then 8 else if v = 755156 then 9 else if v = 2 then 10 else if v = 3 then 11 else if v = 16 then 12 else if v = 17 then 13 else if v = 18 then 14 else 24 := wt_s _ (v = 143) wm_3 (by rw [wc_42, wc_43, wc_44, wc_45]; omega) g8
  have g6 : wt b s 3 9 6 = if v = 24388997 then 6 else if v = 143 then 7 else if v = 484 then 8 else if v = 755156 then 9 else if v = 2 then 10 else if v = 3 then 11 else if v = 16 then 12 else if v = 17 then 13 else if v = 18 then 14 else 24 := wt_s _ (v = 24388997) wm_3 (by rw [wc_36, wc_37, wc_38, wc_39]; omega) g7
  have g5 : wt b s 3 10 5 = if v = 201 then 5 else if v = 24388997 then 6 else if v = 143 then 7 else if v = 484 then 8 else if v = 755156 then 9 else if v = 2 then 10 else if v = 3 then 11 else if v = 16 then 12 else if v = 17 then 13 else if v = 18 then 14 else 24 := wt_s _ (v = 201) wm_3 (by rw [wc_30, wc_31, wc_32, wc_33]; omega) g6
  have g4 : wt b s 3 11 4 = if v = 176741 then 4 else if v = 201 then 5 else if v = 24388997 then 6 else if v = 143 then 7 else if v = 484 then 8 else if v = 755156 then 9 else if v = 2 then 10 else if v = 3 then 11 else if v = 16 then 12 else if v = 17 then 13 else if v = 18 then 14 else 24 := wt_s _ (v = 176741) wm_3 (by rw [wc_24, wc_25, wc_26, wc_27]; omega) g5
  have g3 : wt b s 3 12 3 = if v = 663726 then 3 else if v = 176741 then 4 else if v = 201 then 5 else if v = 24388997 then 6 else if v = 143 then 7 else if v = 484 then 8 else if v = 755156 then 9 else if v = 2 then 10 else if v = 3 then 11 else if v = 16 then 12 else if v = 17 then 13 else if v = 18 then 14 else 24 := wt_s _ (v = 663726) wm_3 (by rw [wc_18, wc_19, wc_20, wc_21]; omega) g4
  have g2 : wt b s 3 13 2 = if v = 294 then 2 else if v = 663726 then 3 else if v = 176741 then 4 else if v = 201 then 5 else if v = 24388997 then 6 else if v = 143 then 7 else if v = 484 then 8 else if v = 755156 then 9 else if v = 2 then 10 else if v = 3 then 11 else if v = 16 then 12 else if v = 17 then 13 else if v = 18 then 14 else 24 := wt_s _ (v = 294) wm_3 (by rw [wc_12, wc_13, wc_14, wc_15]; omega) g3
  have g1 : wt b s 3 14 1 = if v = 643568 then 1 else if v = 294 then 2 else if v = 663726 then 3 else if v = 176741 then 4 else if v = 201 then 5 else if v = 24388997 then 6 else if v = 143 then 7 else if v = 484 then 8 else if v = 755156 then 9 else if v = 2 then 10 else if v = 3 then 11 else if v = 16 then 12 else if v = 17 then 13 else if v = 18 then 14 else 24 := wt_s _ (v = 643568) wm_3 (by rw [wc_6, wc_7, wc_8, wc_9]; omega) g2
  have g0 : wt b s 3 15 0 = if v = 634160 then 0 else if v = 643568 then 1 else if v = 294 then 2 else if v = 663726 then 3 else if v = 176741 then 4 else if v = 201 then 5 else if v = 24388997 then 6 else if v = 143 then 7 else if v = 484 then 8 else if v = 755156 then 9 else if v = 2 then 10 else if v = 3 then 11 else if v = 16 then 12 else if v = 17 then 13 else if v = 18 then 14 else 24 := wt_s _ (v = 634160) wm_3 (by rw [wc_0, wc_1, wc_2, wc_3]; omega) g1
  rw [g0]; unfold wq
  have key : ∀ x : Nat, (if x = 634160 then 0 else if x = 643568 then 1 else if x = 294 then 2 else if x = 663726 then 3 else if x = 176741 then 4 else if x = 201 then 5 else if x = 24388997 then 6 else if x = 143 then 7 else if x = 484 then 8 else if x = 755156 then 9 else if x = 2 then 10 else if x = 3 then 11 else if x = 16 then 12 else if x = 17 then 13 else if x = 18 then 14 else 24) = (if x = 2 then 10 else if x = 3 then 11 else if x = 16 then 12 else if x = 17 then 13 else if x = 18 then 14 else if x = 634160 then 0 else if x = 643568 then 1 else if x = 294 then 2 else if x = 663726 then 3 else if x = 176741 then 4 else if x = 201 then 5 else if x = 24388997 then 6 else if x = 143 then 7 else if x = 484 then 8 else if x = 755156 then 9 else 24) := wq_k
  exact key v
theorem wt_q4 {b : Nat → Nat} {s : Nat} (h0 : isl (b s)) (h1 : isl (b (s + 1))) (h2 : isl (b (s + 2))) (h3 : isl (b (s + 3))) : wt b s 4 15 0 = wq (vv b s 4) := by
  obtain ⟨a0, c0⟩ := h0
  obtain ⟨a1, c1⟩ := h1
  obtain ⟨a2, c2⟩ := h2
  obtain ⟨a3, c3⟩ := h3
  have ev : vv b s 4 = 32768 * (b s - 96) + 1024 * (b (s + 1) - 96) + 32 * (b (s + 2) - 96) + (b (s + 3) - 96) := by
    simp only [vv, Nat.add_zero]; omega
  generalize vv b s 4 = v at ev
  have g15 : wt b s 4 0 15 = 24 := rfl
  have g14 : wt b s 4 1 14 = if v = 18 then 14 else 24 := wt_s _ (v = 18) wm_4 (by rw [wc_84, wc_85, wc_86, wc_87, wc_88]; omega) g15
  have g13 : wt b s 4 2 13 = if v = 17 then 13 else if v = 18 then 14 else 24 := wt_s _ (v = 17) wm_4 (by rw [wc_78, wc_79, wc_80, wc_81, wc_82]; omega) g14
  have g12 : wt b s 4 3 12 = if v = 16 then 12 else if v = 17 then 13 else if v = 18 then 14 else 24 := wt_s _ (v = 16) wm_4 (by rw [wc_72, wc_73, wc_74, wc_75, wc_76]; omega) g13
  have g11 : wt b s 4 4 11 = if v = 3 then 11 else if v = 16 then 12 else if v = 17 then 13 else if v = 18 then 14 else 24 := wt_s _ (v = 3) wm_4 (by rw [wc_66, wc_67, wc_68, wc_69, wc_70]; omega) g12
  have g10 : wt b s 4 5 10 = if v = 2 then 10 else if v = 3 then 11 else if v = 16 then 12 else if v = 17 then 13 else if v = 18 then 14 else 24 := wt_s _ (v = 2) wm_4 (by rw [wc_60, wc_61, wc_62, wc_63, wc_64]; omega) g11
  have g9 : wt b s 4 6 9 = if v = 755156 then 9 else if v = 2 then 10 else if v = 3 then 11 else if v = 16 then 12 else if v = 17 then 13 else if v = 18 then 14 else 24 := wt_s _ (v = 755156) wm_4 (by rw [wc_54, wc_55, wc_56, wc_57, wc_58]; omega) g10
  have g8 : wt b s 4 7 8 = if v = 484 then 8 else if v = 755156 then 9 else if v = 2 then 10 else if v = 3 then 11 else if v = 16 then 12 else if v = 17 then 13 else if v = 18 then 14 else 24 := wt_s _ (v = 484) wm_4 (by rw [wc_48, wc_49, wc_50, wc_51, wc_52]; omega) g9
  have g7 : wt b s 4 8 7 = if v = 143 then 7 else if v = 484 then 8 else if v = 755156 then 9 else if v = 2 then 10 else if v = 3 then 11 else if v = 16 then 12 else if v = 17 then 13 else if v = 18 then 14 else 24 := wt_s _ (v = 143) wm_4 (by rw [wc_42, wc_43, wc_44, wc_45, wc_46]; omega) g8
  have g6 : wt b s 4 9 6 = if v = 24388997 then 6 else if v = 143 then 7 else if v = 484 then 8 else if v = 755156 then 9 else if v = 2 then 10 else if v = 3 then 11 else if v = 16 then 12 else if v = 17 then 13 else if v = 18 then 14 else 24 := wt_s _ (v = 24388997) wm_4 (by rw [wc_36, wc_37, wc_38, wc_39, wc_40]; omega) g7
  have g5 : wt b s 4 10 5 = if v = 201 then 5 else if v = 24388997 then 6 else if v = 143 then 7 else if v = 484 then 8 else if v = 755156 then 9 else if v = 2 then 10 else if v = 3 then 11 else if v = 16 then 12 else if v = 17 then 13 else if v = 18 then 14 else 24 := wt_s _ (v = 201) wm_4 (by rw [wc_30, wc_31, wc_32, wc_33, wc_34]; omega) g6
  have g4 : wt b s 4 11 4 = if v = 176741 then 4 else if v = 201 then 5 else if v = 24388997 then 6 else if v = 143 then 7 else if v = 484 then 8 else if v = 755156 then 9 else if v = 2 then 10 else if v = 3 then 11 else if v = 16 then 12 else if v = 17 then 13 else if v = 18 then 14 else 24 := wt_s _ (v = 176741) wm_4 (by rw [wc_24, wc_25, wc_26, wc_27, wc_28]; omega) g5
  have g3 : wt b s 4 12 3 = if v = 663726 then 3 else if v = 176741 then 4 else if v = 201 then 5 else if v = 24388997 then 6 else if v = 143 then 7 else if v = 484 then 8 else if v = 755156 then 9 else if v = 2 then 10 else if v = 3 then 11 else if v = 16 then 12 else if v = 17 then 13 else if v = 18 then 14 else 24 := wt_s _ (v = 663726) wm_4 (by rw [wc_18, wc_19, wc_20, wc_21, wc_22]; omega) g4
  have g2 : wt b s 4 13 2 = if v = 294 then 2 else if v = 663726 then 3 else if v = 176741 then 4 else if v = 201 then 5 else if v = 24388997 then 6 else if v = 143 then 7 else if v = 484 then 8 else if v = 755156 then 9 else if v = 2 then 10 else if v = 3 then 11 else if v = 16 then 12 else if v = 17 then 13 else if v = 18 then 14 else 24 := wt_s _ (v = 294) wm_4 (by rw [wc_12, wc_13, wc_14, wc_15, wc_16]; omega) g3
  have g1 : wt b s 4 14 1 = if v = 643568 then 1 else if v = 294 then 2 else if v = 663726 then 3 else if v = 176741 then 4 else if v = 201 then 5 else if v = 24388997 then 6 else if v = 143 then 7 else if v = 484 then 8 else if v = 755156 then 9 else if v = 2 then 10 else if v = 3 then 11 else if v = 16 then 12 else if v = 17 then 13 else if v = 18 then 14 else 24 := wt_s _ (v = 643568) wm_4 (by rw [wc_6, wc_7, wc_8, wc_9, wc_10]; omega) g2
  have g0 : wt b s 4 15 0 = if v = 634160 then 0 else if v = 643568 then 1 else if v = 294 then 2 else if v = 663726 then 3 else if v = 176741 then 4 else if v = 201 then 5 else if v = 24388997 then 6 else if v = 143 then 7 else if v = 484 then 8 else if v = 755156 then 9 else if v = 2 then 10 else if v = 3 then 11 else if v = 16 then 12 else if v = 17 then 13 else if v = 18 then 14 else 24 := wt_s _ (v = 634160) wm_4 (by rw [wc_0, wc_1, wc_2, wc_3, wc_4]; omega) g1
  rw [g0]; unfold wq
  have key : ∀ x : Nat, (if x = 634160 then 0 else if x = 643568 then 1 else if x = 294 then 2 else if x = 663726 then 3 else if x = 176741 then 4 else if x = 201 then 5 else if x = 24388997 then 6 else if x = 143 then 7 else if x = 484 then 8 else if x = 755156 then 9 else if x = 2 then 10 else if x = 3 then 11 else if x = 16 then 12 else if x = 17 then 13 else if x = 18 then 14 else 24) = (if x = 2 then 10 else if x = 3 then 11 else if x = 16 then 12 else if x = 17 then 13 else if x = 18 then 14 else if x = 634160 then 0 else if x = 643568 then 1 else if x = 294 then 2 else if x = 663726 then 3 else if x = 176741 then 4 else if x = 201 then 5 else if x = 24388997 then 6 else if x = 143 then 7 else if x = 484 then 8 else if x = 755156 then 9 else 24) := wq_k
  exact key v
theorem wt_q5 {b : Nat → Nat} {s : Nat} (h0 : isl (b s)) (h1 : isl (b (s + 1))) (h2 : isl (b (s + 2))) (h3 : isl (b (s + 3))) (h4 : isl (b (s + 4))) : wt b s 5 15 0 = wq (vv b s 5) := by
  obtain ⟨a0, c0⟩ := h0
  obtain ⟨a1, c1⟩ := h1
  obtain ⟨a2, c2⟩ := h2
  obtain ⟨a3, c3⟩ := h3
  obtain ⟨a4, c4⟩ := h4
  have ev : vv b s 5 = 1048576 * (b s - 96) + 32768 * (b (s + 1) - 96) + 1024 * (b (s + 2) - 96) + 32 * (b (s + 3) - 96) + (b (s + 4) - 96) := by
    simp only [vv, Nat.add_zero]; omega
  generalize vv b s 5 = v at ev
  have g15 : wt b s 5 0 15 = 24 := rfl
  have g14 : wt b s 5 1 14 = if v = 18 then 14 else 24 := wt_s _ (v = 18) wm_5 (by rw [wc_84, wc_85, wc_86, wc_87, wc_88, wc_89]; omega) g15
  have g13 : wt b s 5 2 13 = if v = 17 then 13 else if v = 18 then 14 else 24 := wt_s _ (v = 17) wm_5 (by rw [wc_78, wc_79, wc_80, wc_81, wc_82, wc_83]; omega) g14
  have g12 : wt b s 5 3 12 = if v = 16 then 12 else if v = 17 then 13 else if v = 18 then 14 else 24 := wt_s _ (v = 16) wm_5 (by rw [wc_72, wc_73, wc_74, wc_75, wc_76, wc_77]; omega) g13
  have g11 : wt b s 5 4 11 = if v = 3 then 11 else if v = 16 then 12 else if v = 17 then 13 else if v = 18 then 14 else 24 := wt_s _ (v = 3) wm_5 (by rw [wc_66, wc_67, wc_68, wc_69, wc_70, wc_71]; omega) g12
  have g10 : wt b s 5 5 10 = if v = 2 then 10 else if v = 3 then 11 else if v = 16 then 12 else if v = 17 then 13 else if v = 18 then 14 else 24 := wt_s _ (v = 2) wm_5 (by rw [wc_60, wc_61, wc_62, wc_63, wc_64, wc_65]; omega) g11
  have g9 : wt b s 5 6 9 = if v = 755156 then 9 else if v = 2 then 10 else if v = 3 then 11 else if v = 16 then 12 else if v = 17 then 13 else if v = 18 then 14 else 24 := wt_s _ (v = 755156) wm_5 (by rw [wc_54, wc_55, wc_56, wc_57, wc_58, wc_59]; omega) g10
  have g8 : wt b s 5 7 8 = if v = 484 then 8 else if v = 755156 then 9 else if v = 2 then 10 else if v = 3 then 11 else if v = 16 then 12 else if v = 17 then 13 else if v = 18 then 14 else 24 := wt_s _ (v = 484) wm_5 (by rw [wc_48, wc_49, wc_50, wc_51, wc_52, wc_53]; omega) g9
  have g7 : wt b s 5 8 7 = if v = 143 then 7 else if v = 484 then 8 else if v = 755156 then 9 else if v = 2 then 10 else if v = 3 then 11 else if v = 16 then 12 else if v = 17 then 13 else if v = 18 then 14 else 24 := wt_s _ (v = 143) wm_5 (by rw [wc_42, wc_43, wc_44, wc_45, wc_46, wc_47]; omega) g8
  have g6 : wt b s 5 9 6 = if v = 24388997 then 6 else if v = 143 then 7 else if v = 484 then 8 else if v = 755156 then 9 else if v = 2 then 10 else if v = 3 then 11 else if v = 16 then 12 else if v = 17 then 13 else if v = 18 then 14 else 24 := wt_s _ (v = 24388997) wm_5 (by rw [wc_36, wc_37, wc_38, wc_39, wc_40, wc_41]; omega) g7
  have g5 : wt b s 5 10 5 = if v = 201 then 5 else if v = 24388997 then 6 else if v = 143 then 7 else if v = 484 then 8 else if v = 755156 then 9 else if v = 2 then 10 else if v = 3 then 11 else if v = 16 then 12 else if v = 17 then 13 else if v = 18 then 14 else 24 := wt_s _ (v = 201) wm_5 (by rw [wc_30, wc_31, wc_32, wc_33, wc_34, wc_35]; omega) g6
  have g4 : wt b s 5 11 4 = if v = 176741 then 4 else if v = 201 then 5 else if v = 24388997 then 6 else if v = 143 then 7 else if v = 484 then 8 else if v = 755156 then 9 else if v = 2 then 10 else if v = 3 then 11 else if v = 16 then 12 else if v = 17 then 13 else if v = 18 then 14 else 24 := wt_s _ (v = 176741) wm_5 (by rw [wc_24, wc_25, wc_26, wc_27, wc_28, wc_29]; omega) g5
  have g3 : wt b s 5 12 3 = if v = 663726 then 3 else if v = 176741 then 4 else if v = 201 then 5 else if v = 24388997 then 6 else if v = 143 then 7 else if v = 484 then 8 else if v = 755156 then 9 else if v = 2 then 10 else if v = 3 then 11 else if v = 16 then 12 else if v = 17 then 13 else if v = 18 then 14 else 24 := wt_s _ (v = 663726) wm_5 (by rw [wc_18, wc_19, wc_20, wc_21, wc_22, wc_23]; omega) g4
  have g2 : wt b s 5 13 2 = if v = 294 then 2 else if v = 663726 then 3 else if v = 176741 then 4 else if v = 201 then 5 else if v = 24388997 then 6 else if v = 143 then 7 else if v = 484 then 8 else if v = 755156 then 9 else if v = 2 then 10 else if v = 3 then 11 else if v = 16 then 12 else if v = 17 then 13 else if v = 18 then 14 else 24 := wt_s _ (v = 294) wm_5 (by rw [wc_12, wc_13, wc_14, wc_15, wc_16, wc_17]; omega) g3
  have g1 : wt b s 5 14 1 = if v = 643568 then 1 else if v = 294 then 2 else if v = 663726 then 3 else if v = 176741 then 4 else if v = 201 then 5 else if v = 24388997 then 6 else if v = 143 then 7 else if v = 484 then 8 else if v = 755156 then 9 else if v = 2 then 10 else if v = 3 then 11 else if v = 16 then 12 else if v = 17 then 13 else if v = 18 then 14 else 24 := wt_s _ (v = 643568) wm_5 (by rw [wc_6, wc_7, wc_8, wc_9, wc_10, wc_11]; omega) g2
  have g0 : wt b s 5 15 0 = if v = 634160 then 0 else if v = 643568 then 1 else if v = 294 then 2 else if v = 663726 then 3 else if v = 176741 then 4 else if v = 201 then 5 else if v = 24388997 then 6 else if v = 143 then 7 else if v = 484 then 8 else if v = 755156 then 9 else if v = 2 then 10 else if v = 3 then 11 else if v = 16 then 12 else if v = 17 then 13 else if v = 18 then 14 else 24 := wt_s _ (v = 634160) wm_5 (by rw [wc_0, wc_1, wc_2, wc_3, wc_4, wc_5]; omega) g1
  rw [g0]; unfold wq
  have key : ∀ x : Nat, (if x = 634160 then 0 else if x = 643568 then 1 else if x = 294 then 2 else if x = 663726 then 3 else if x = 176741 then 4 else if x = 201 then 5 else if x = 24388997 then 6 else if x = 143 then 7 else if x = 484 then 8 else if x = 755156 then 9 else if x = 2 then 10 else if x = 3 then 11 else if x = 16 then 12 else if x = 17 then 13 else if x = 18 then 14 else 24) = (if x = 2 then 10 else if x = 3 then 11 else if x = 16 then 12 else if x = 17 then 13 else if x = 18 then 14 else if x = 634160 then 0 else if x = 643568 then 1 else if x = 294 then 2 else if x = 663726 then 3 else if x = 176741 then 4 else if x = 201 then 5 else if x = 24388997 then 6 else if x = 143 then 7 else if x = 484 then 8 else if x = 755156 then 9 else 24) := wq_k
  exact key v
