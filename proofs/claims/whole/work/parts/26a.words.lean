/-! words and signs on both sides -/
def wcl : List Nat := [115, 107, 105, 112, 32, 32, 115, 116, 111, 112, 32, 32, 105, 102, 32, 32, 32, 32, 116, 104, 101, 110, 32, 32, 101, 108, 115, 101, 32, 32, 102, 105, 32, 32, 32, 32, 119, 104, 105, 108, 101, 32, 100, 111, 32, 32, 32, 32, 111, 100, 32, 32, 32, 32, 119, 97, 110, 116, 32, 32, 98, 32, 32, 32, 32, 32, 99, 32, 32, 32, 32, 32, 112, 32, 32, 32, 32, 32, 113, 32, 32, 32, 32, 32, 114, 32, 32, 32, 32, 32]
def wc (k : Nat) : Nat := wcl.getD k 0
/-- a class's token as the reference has it -/
def mt (t : Nat) : Nat := if t = 23 then 0 else if t = 24 then 1 else t + 2
theorem wc_lt : ∀ k, k < 90 → wc k < 128 := by
  have t : ∀ k : Fin 90, wc k.1 < 128 := by decide +kernel
  exact fun k hk => t ⟨k, hk⟩
section
variable {N : Nat}
theorem j_charAt {k : Nat} (h : k < 90) : f_J0_charAt_5068e N (ii k) = some (ii (wc k)) := by
  have t : ∀ k : Fin 90, f_J0_charAt_5068e 0 (ii k.1) = some (ii (wc k.1)) := by decide +kernel
  have e : f_J0_charAt_5068e N (ii k) = f_J0_charAt_5068e 0 (ii k) := rfl
  rw [e]; exact t ⟨k, h⟩
/-- the word's first n letters are those of the t-th column -/
def pm (b : Nat → Nat) (s t : Nat) : Nat → Bool
  | 0 => true
  | n + 1 => pm b s t n && decide (wc (t * 6 + n) = b (s + n))
theorem pm_f {b : Nat → Nat} {s t j : Nat} (h : pm b s t j = false) : ∀ d, pm b s t (j + d) = false
  | 0 => h
  | d + 1 => by
    show (pm b s t (j + d) && _) = false
    rw [pm_f h d]; rfl
def wm (b : Nat → Nat) (s n t : Nat) : Bool := pm b s t n && decide (wc (t * 6 + n) = 32)
def wt (b : Nat → Nat) (s n : Nat) : Nat → Nat → Nat
  | 0, _ => 24
  | f + 1, t => if wm b s n t = true then t else wt b s n f (t + 1)
variable {B : Nat → Int32} {b : Nat → Nat} {L : Nat}
theorem sx_w {c k : Nat} (hc : c < 256) (hk : k < 128) : ii k = sx c ↔ k = c := by
  unfold sx
  by_cases q : c < 128
  · rw [if_pos q, ii_eq (by omega) (by omega)]
  · rw [if_neg q, ii_eq_ni (by omega) (by omega)]; omega
theorem c_wt33 {s n t : Nat} {k16 : Int32 → Int32 → Int32 → Option Int32} (hB : ∀ j, j < L → b j < 256 ∧ B j = sx (b j)) (hL : L ≤ 300) (hs : s + n ≤ L) (hn : n < 6) (ht : t < 15) : ∀ d j m, j + d = n → d + 1 ≤ m → pm b s t j = true →
    f_X7_wordToken_33 N (fun _ => B) k16 m (ii s) (ii n) (ii t) (ii (t * 6)) (ii j) = if wm b s n t = true then some (ii t) else k16 (ii s) (ii n) (ii (t + 1)) := by
  have e64 : ∀ j, j ≤ n → f_X7_wordToken_64 N (fun _ => B) k16 (ii s) (ii n) (ii t) (ii (t * 6)) (ii j) = if j = n ∧ wc (t * 6 + j) = 32 then some (ii t) else k16 (ii s) (ii n) (ii (t + 1)) := fun j hj => by
    unfold f_X7_wordToken_64 f_X7_wordToken_88
    rw [ii_add, lk_1, ii_add, lk_32]
    have e : ii j = ii n ↔ j = n := ii_eq (by omega) (by omega)
    have hw := wc_lt (t * 6 + j) (by omega)
    have e2 : ii (wc (t * 6 + j)) = ii 32 ↔ wc (t * 6 + j) = 32 := ii_eq (by omega) (by omega)
    by_cases q : j = n
    · by_cases q2 : wc (t * 6 + j) = 32
      · rw [if_pos (show j = n ∧ wc (t * 6 + j) = 32 from ⟨q, q2⟩)]
        exact sp (e.mpr q) (sb (j_charAt (by omega)) (sp (e2.mpr q2) rfl))
      · rw [if_neg (show ¬ (j = n ∧ wc (t * 6 + j) = 32) from fun x => q2 x.2)]
        exact sp (e.mpr q) (sb (j_charAt (by omega)) (sn (fun x => q2 (e2.mp x)) rfl))
    · rw [if_neg (show ¬ (j = n ∧ wc (t * 6 + j) = 32) from fun x => q x.1)]
      exact sn (fun x => q (e.mp x)) rfl
  intro d
  induction d with
  | zero =>
    intro j m hj hm hp
    obtain ⟨m, rfl⟩ : ∃ j, m = j + 1 := ⟨m - 1, by omega⟩
    obtain rfl : j = n := by omega
    rw [f_X7_wordToken_33]
    refine sp (le_y j (Nat.le_refl _) (by omega)) ?_
    rw [e64 j (Nat.le_refl _)]
    unfold wm
    rw [hp]
    by_cases q : wc (t * 6 + j) = 32
    · rw [if_pos ⟨rfl, q⟩, if_pos (by rw [decide_eq_true q]; rfl)]
    · rw [if_neg (fun x => q x.2), if_neg (by rw [decide_eq_false q]; decide)]
  | succ d ih =>
    intro j m hj hm hp
    obtain ⟨m, rfl⟩ : ∃ j, m = j + 1 := ⟨m - 1, by omega⟩
    obtain ⟨h1, h2⟩ := hB (s + j) (by omega)
    have hw := wc_lt (t * 6 + j) (by omega)
    rw [f_X7_wordToken_33, ii_add, ii_add, ii_nat (show s + j < 2147483648 by omega), lk_1, ii_add]
    refine sn (le_n (a := n) j (by omega) (by omega)) (sb (j_charAt (by omega)) (sp (ii_ib (by omega) (by omega)) ?_))
    have e := sx_w h1 hw
    show (if ii (wc (t * 6 + j)) = B (s + j) then _ else _) = _
    rw [h2]
    by_cases q : wc (t * 6 + j) = b (s + j)
    · rw [if_pos (e.mpr q)]
      exact ih (j + 1) m (by omega) (by omega) (by
        show (pm b s t j && _) = true
        rw [hp, decide_eq_true q]; rfl)
    · rw [if_neg (fun x => q (e.mp x)), e64 j (by omega), if_neg (show ¬ (j = n ∧ wc (t * 6 + j) = 32) from fun x => by omega)]
      have f : pm b s t (j + 1) = false := by
        show (pm b s t j && _) = false
        rw [hp, decide_eq_false q]; rfl
      have f2 := pm_f f d
      rw [show j + 1 + d = n by omega] at f2
      unfold wm
      rw [f2, Bool.false_and, if_neg (by decide)]
theorem c_wt16 {s n : Nat} (hN : 1000 ≤ N) (hB : ∀ j, j < L → b j < 256 ∧ B j = sx (b j)) (hL : L ≤ 300) (hs : s + n ≤ L) (hn : n < 6) : ∀ f t m, t + f = 15 → f + 1 ≤ m → f_X7_wordToken_16 N (fun _ => B) m (ii s) (ii n) (ii t) = some (ii (wt b s n f t)) := by
  intro f
  induction f with
  | zero =>
    intro t m ht hm
    obtain ⟨m, rfl⟩ : ∃ j, m = j + 1 := ⟨m - 1, by omega⟩
    rw [f_X7_wordToken_16]
    exact sp (lt_y (a := 14) t (by omega) (by omega)) rfl
  | succ f ih =>
    intro t m ht hm
    obtain ⟨m, rfl⟩ : ∃ j, m = j + 1 := ⟨m - 1, by omega⟩
    rw [f_X7_wordToken_16, lk_6, ii_mul, lk_0]
    refine sn (lt_n (a := 14) t (by omega) (by omega)) ?_
    rw [c_wt33 hB hL hs hn (by omega) n 0 N (by omega) (by omega) rfl]
    show _ = some (ii (if wm b s n t = true then t else wt b s n f (t + 1)))
    by_cases q : wm b s n t = true
    · rw [if_pos q, if_pos q]
    · rw [if_neg q, if_neg q]; exact ih (t + 1) m (by omega) (by omega)
/-- the word's token -/
def wk5 (b : Nat → Nat) (s e : Nat) : Nat := if e - s < 6 then wt b s (e - s) 15 0 else 24
theorem c_wordToken {s e : Nat} (hN : 1000 ≤ N) (hB : ∀ j, j < L → b j < 256 ∧ B j = sx (b j)) (hL : L ≤ 300) (hs : s ≤ e) (he : e ≤ L) : f_X7_wordToken N (fun _ => B) (ii s) (ii e) = some (ii (wk5 b s e)) := by
  unfold f_X7_wordToken f_X7_wordToken_0 wk5
  rw [ii_sub hs]
  by_cases q : e - s < 6
  · rw [if_pos q]
    exact sp (lt_y 6 q (by omega)) (c_wt16 hN hB hL (by omega) q 15 0 N (by omega) (by omega))
  · rw [if_neg q]
    exact sn (lt_n 6 (by omega) (by omega)) rfl
end
