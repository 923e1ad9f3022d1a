/-! the class's scan -/
/-- the text's tokens: c of them, then the end -/
def ts (b : Nat → Nat) (L : Nat) (tk bg nx : Nat → Nat) (c : Nat) : Prop :=
  (∀ k, k ≤ c → lx b L (if k = 0 then 0 else nx (k - 1)) (bg k) (nx k) (tk k)) ∧ tk c = 23 ∧ bg c = L ∧ ∀ k, k < c → bg k < L
section
variable {N L : Nat} {b : Nat → Nat} {B : Nat → Int32}
theorem c_wordEnd {s : Nat} (hN : 1000 ≤ N) (hL : L ≤ 300) (hB : ∀ j, j < L → b j < 256 ∧ B j = sx (b j)) (hs : s < L) : ∃ e, wrd b L (s + 1) e ∧ f_X7_wordEnd N (fun _ => B) (ii s) (ii L) = some (ii e) := by
  have go : ∀ d p m, p + d = L → d + 1 ≤ m → s + 1 ≤ p → (∀ x, s + 1 ≤ x → x < p → isl (b x)) → ∃ e, wrd b L (s + 1) e ∧ f_X7_wordEnd_4 N (fun _ => B) m (ii L) (ii p) = some (ii e) := by
    intro d
    induction d with
    | zero =>
      intro p m hp hm h1 hl
      obtain ⟨m, rfl⟩ : ∃ j, m = j + 1 := ⟨m - 1, by omega⟩
      refine ⟨p, ⟨h1, by omega, hl, Or.inl (by omega)⟩, ?_⟩
      rw [f_X7_wordEnd_4]
      exact sp (le_y p (by omega) (by omega)) rfl
    | succ d ih =>
      intro p m hp hm h1 hl
      obtain ⟨m, rfl⟩ : ∃ j, m = j + 1 := ⟨m - 1, by omega⟩
      obtain ⟨hb, ht⟩ := hB p (by omega)
      obtain ⟨l1, l2⟩ := c_let (N := N) hb
      have e : B (ii p).toNatClampNeg &&& 255 = ii (b p) := by rw [ii_nat (by omega), ht, sx_and hb]
      rw [f_X7_wordEnd_4, e, lk_1, ii_add]
      by_cases q : isl (b p)
      · obtain ⟨e, w, f⟩ := ih (p + 1) m (by omega) (by omega) (by omega) (fun x h1 h2 => by
          by_cases e : x = p
          · subst e; exact q
          · exact hl x h1 (by omega))
        exact ⟨e, w, sn (le_n (a := L) p (by omega) (by omega)) (sp (ii_ib (by omega) (by omega)) (sb (l1 q) (sn n10 f)))⟩
      · refine ⟨p, ⟨h1, by omega, hl, Or.inr q⟩, sn (le_n (a := L) p (by omega) (by omega)) (sp (ii_ib (by omega) (by omega)) (sb (l2 q) (sp rfl rfl)))⟩
  unfold f_X7_wordEnd f_X7_wordEnd_0
  rw [lk_1, ii_add]
  exact go (L - (s + 1)) (s + 1) N (by omega) (by omega) (Nat.le_refl _) (fun x h1 h2 => by omega)
/-- as far as the class's scan has come -/
def sc (b : Nat → Nat) (L : Nat) (z : ql_St) (tk bg nx : Nat → Nat) (k at_ p : Nat) : Prop :=
  p = (if k = 0 then 0 else nx (k - 1)) ∧ k ≤ at_ ∧ p ≤ L ∧ (∀ j, j < k → lx b L (if j = 0 then 0 else nx (j - 1)) (bg j) (nx j) (tk j) ∧ bg j < L ∧ z 0 j = ii (tk j) ∧ z 1 j = ii (bg j)) ∧
  ((at_ < p ∧ 0 < at_ ∧ ∀ x, at_ ≤ x → x < p → isl (b x) ∧ isl (b (x - 1))) ∨ (p ≤ at_ ∧ ∀ x, p ≤ x → x < at_ → b x = 32)) ∧ (p = 0 ∨ p = L ∨ ¬ isl (b p) ∨ ¬ isl (b (p - 1)))
theorem sc_push {z : ql_St} {tk bg nx : Nat → Nat} {k at_ p e t : Nat} {tc bc : Int32} (h : sc b L z tk bg nx k at_ p) (hat : at_ < L) (hp : p ≤ at_) (hb : b at_ ≠ 32) (hl : (¬ isl (b at_) ∧ e = at_ + 1 ∧ t = sg (b at_)) ∨ (isl (b at_) ∧ wrd b L (at_ + 1) e ∧ t = wk5 b at_ e)) (e1 : tc = ii t) (e2 : bc = ii at_) :
    sc b L (ql_up (ql_up z 0 (upd (z 0) k tc)) 1 (upd (z 1) k bc)) (fun j => if j = k then t else tk j) (fun j => if j = k then at_ else bg j) (fun j => if j = k then e else nx j) (k + 1) (at_ + 1) e := by
  obtain ⟨h1, h2, h3, h4, h5, h6⟩ := h
  have he : at_ + 1 ≤ e ∧ e ≤ L := by
    rcases hl with ⟨_, rfl, _⟩ | ⟨_, w, _⟩
    · omega
    · exact ⟨w.1, w.2.1⟩
  have hblk : blk b L p at_ := by
    refine ⟨hp, by omega, ?_, Or.inr hb⟩
    rcases h5 with ⟨a, _, _⟩ | ⟨_, a⟩
    · omega
    · exact a
  refine ⟨?_, by omega, he.2, fun j hj => ?_, ?_, ?_⟩
  · rw [if_neg (by omega)]
    show e = if k + 1 - 1 = k then e else nx (k + 1 - 1)
    rw [if_pos (by omega)]
  · by_cases c : j = k
    · subst c
      have ep : (if j = 0 then 0 else (fun i => if i = j then e else nx i) (j - 1)) = p := by
        rw [h1]
        by_cases c0 : j = 0
        · rw [if_pos c0, if_pos c0]
        · rw [if_neg c0, if_neg c0]
          show (if j - 1 = j then e else nx (j - 1)) = nx (j - 1)
          rw [if_neg (by omega)]
      rw [ep]
      show lx b L p (if j = j then at_ else bg j) (if j = j then e else nx j) (if j = j then t else tk j) ∧ (if j = j then at_ else bg j) < L ∧ upd (z 0) j tc j = ii (if j = j then t else tk j) ∧ upd (z 1) j bc j = ii (if j = j then at_ else bg j)
      rw [if_pos rfl, if_pos rfl, if_pos rfl, ud_same, ud_same]
      refine ⟨⟨hblk, ?_⟩, hat, e1, e2⟩
      rcases hl with ⟨a, b1, c1⟩ | ⟨a, b1, c1⟩
      · exact Or.inr (Or.inl ⟨hat, a, b1, c1⟩)
      · exact Or.inr (Or.inr ⟨hat, a, b1, c1⟩)
    · obtain ⟨a1, a2, a3, a4⟩ := h4 j (by omega)
      have ep : (if j = 0 then 0 else (fun i => if i = k then e else nx i) (j - 1)) = (if j = 0 then 0 else nx (j - 1)) := by
        by_cases c0 : j = 0
        · rw [if_pos c0, if_pos c0]
        · rw [if_neg c0, if_neg c0]
          show (if j - 1 = k then e else nx (j - 1)) = nx (j - 1)
          rw [if_neg (by omega)]
      rw [ep]
      show lx b L _ (if j = k then at_ else bg j) (if j = k then e else nx j) (if j = k then t else tk j) ∧ (if j = k then at_ else bg j) < L ∧ upd (z 0) k tc j = ii (if j = k then t else tk j) ∧ upd (z 1) k bc j = ii (if j = k then at_ else bg j)
      rw [if_neg c, if_neg c, if_neg c, ud_ne c, ud_ne c]
      exact ⟨a1, a2, a3, a4⟩
  · by_cases c : at_ + 1 < e
    · refine Or.inl ⟨c, by omega, fun x x1 x2 => ?_⟩
      rcases hl with ⟨_, rfl, _⟩ | ⟨i, w, _⟩
      · omega
      · refine ⟨w.2.2.1 x x1 x2, ?_⟩
        by_cases c2 : x = at_ + 1
        · subst c2; exact i
        · exact w.2.2.1 (x - 1) (by omega) (by omega)
    · exact Or.inr ⟨by omega, fun x x1 x2 => by omega⟩
  · rcases hl with ⟨i, rfl, _⟩ | ⟨i, w, _⟩
    · exact Or.inr (Or.inr (Or.inr i))
    · rcases w.2.2.2 with q | q
      · exact Or.inr (Or.inl q)
      · exact Or.inr (Or.inr (Or.inl q))
theorem sc_next {z : ql_St} {tk bg nx : Nat → Nat} {k at_ p : Nat} (h : sc b L z tk bg nx k at_ p) (hn : (at_ < p) ∨ b at_ = 32) : sc b L z tk bg nx k (at_ + 1) p := by
  obtain ⟨h1, h2, h3, h4, h5, h6⟩ := h
  refine ⟨h1, by omega, h3, h4, ?_, h6⟩
  rcases h5 with ⟨a1, a2, a3⟩ | ⟨a1, a2⟩
  · by_cases c : at_ + 1 < p
    · exact Or.inl ⟨c, by omega, fun x x1 x2 => a3 x (by omega) x2⟩
    · exact Or.inr ⟨by omega, fun x x1 x2 => by omega⟩
  · refine Or.inr ⟨by omega, fun x x1 x2 => ?_⟩
    by_cases c : x = at_
    · subst c
      rcases hn with hn | hn
      · omega
      · exact hn
    · exact a2 x x1 (by omega)
theorem c_scan5 (hN : 1000 ≤ N) (hL : L ≤ 300) (hB : ∀ j, j < L → b j < 256 ∧ B j = sx (b j)) : ∀ d at_ m z tk bg nx k p, at_ + d = L → d + 1 ≤ m → sc b L z tk bg nx k at_ p →
    ∃ z' tk bg nx c, f_X7_scan_5 N B m z (ii L) (ii k) (ii at_) = some z' ∧ ts b L tk bg nx c ∧ c ≤ L ∧ (∀ j, j ≤ c → z' 0 j = ii (tk j) ∧ z' 1 j = ii (bg j)) ∧ ∀ s, s ≠ 0 → s ≠ 1 → z' s = z s := by
  intro d
  induction d with
  | zero =>
    intro at_ m z tk bg nx k p hat hm h
    obtain ⟨m, rfl⟩ : ∃ j, m = j + 1 := ⟨m - 1, by omega⟩
    obtain ⟨h1, h2, h3, h4, h5, h6⟩ := h
    refine ⟨ql_up (ql_up z 0 (upd (z 0) k (ii 23))) 1 (upd (z 1) k (ii L)), fun j => if j = k then 23 else tk j, fun j => if j = k then L else bg j, fun j => if j = k then L else nx j, k, ?_, ⟨fun j hj => ?_, if_pos rfl, if_pos rfl, fun j hj => ?_⟩, by omega, fun j hj => ?_, fun s s0 s1 => by rw [up_ne s1, up_ne s0]⟩
    · rw [f_X7_scan_5, ii_nat (by omega)]
      exact sp (le_y at_ (by omega) (by omega)) (sp (ii_ib (by omega) (by omega)) (sp (ii_ib (by omega) (by omega)) rfl))
    · by_cases c : j = k
      · subst c
        have ep : (if j = 0 then 0 else (fun i => if i = j then L else nx i) (j - 1)) = p := by
          rw [h1]
          by_cases c0 : j = 0
          · rw [if_pos c0, if_pos c0]
          · rw [if_neg c0, if_neg c0]
            show (if j - 1 = j then L else nx (j - 1)) = nx (j - 1)
            rw [if_neg (by omega)]
        rw [ep]
        show lx b L p (if j = j then L else bg j) (if j = j then L else nx j) (if j = j then 23 else tk j)
        rw [if_pos rfl, if_pos rfl, if_pos rfl]
        refine ⟨⟨h3, Nat.le_refl _, ?_, Or.inl rfl⟩, Or.inl ⟨rfl, rfl, rfl⟩⟩
        rcases h5 with ⟨a, _, _⟩ | ⟨_, a⟩
        · omega
        · intro x x1 x2; exact a x x1 (by omega)
      · have ep : (if j = 0 then 0 else (fun i => if i = k then L else nx i) (j - 1)) = (if j = 0 then 0 else nx (j - 1)) := by
          by_cases c0 : j = 0
          · rw [if_pos c0, if_pos c0]
          · rw [if_neg c0, if_neg c0]
            show (if j - 1 = k then L else nx (j - 1)) = nx (j - 1)
            rw [if_neg (by omega)]
        rw [ep]
        show lx b L _ (if j = k then L else bg j) (if j = k then L else nx j) (if j = k then 23 else tk j)
        rw [if_neg c, if_neg c, if_neg c]
        exact (h4 j (by omega)).1
    · show (if j = k then L else bg j) < L
      rw [if_neg (by omega)]; exact (h4 j hj).2.1
    · show upd (z 0) k (ii 23) j = ii (if j = k then 23 else tk j) ∧ upd (z 1) k (ii L) j = ii (if j = k then L else bg j)
      by_cases c : j = k
      · subst c; rw [if_pos rfl, if_pos rfl, ud_same, ud_same]; exact ⟨rfl, rfl⟩
      · rw [if_neg c, if_neg c, ud_ne c, ud_ne c]; exact (h4 j (by omega)).2.2
  | succ d ih =>
    intro at_ m z tk bg nx k p hat hm h
    obtain ⟨m, rfl⟩ : ∃ j, m = j + 1 := ⟨m - 1, by omega⟩
    have hatL : at_ < L := by omega
    obtain ⟨hb, ht⟩ := hB at_ hatL
    obtain ⟨l1, l2⟩ := c_let (N := N) hb
    have hk := h.2.1
    have e : B (ii at_).toNatClampNeg &&& 255 = ii (b at_) := by rw [ii_nat (by omega), ht, sx_and hb]
    have e32 : ii (b at_) = ii 32 ↔ b at_ = 32 := ii_eq (by omega) (by omega)
    have nle : ¬ ii L ≤ ii at_ := le_n (a := L) at_ (by omega) (by omega)
    have ib : ql_ib (ii at_) 300 = true := ii_ib (by omega) (by omega)
    have e103 : ∀ t, f_X7_scan_103 N B (f_X7_scan_5 N B m) z (ii L) (ii k) (ii at_) (ii t) (ii k) = f_X7_scan_5 N B m (ql_up (ql_up z 0 (upd (z 0) k (ii t))) 1 (upd (z 1) k (ii at_))) (ii L) (ii (k + 1)) (ii (at_ + 1)) := fun t => by
      unfold f_X7_scan_103 f_X7_scan_115
      rw [ii_nat (by omega), lk_1, ii_add, ii_add]
      exact sp (ii_ib (by omega) (by omega)) (sp (ii_ib (by omega) (by omega)) rfl)
    have pushed : ∀ t e, p ≤ at_ → b at_ ≠ 32 → ((¬ isl (b at_) ∧ e = at_ + 1 ∧ t = sg (b at_)) ∨ (isl (b at_) ∧ wrd b L (at_ + 1) e ∧ t = wk5 b at_ e)) → ∃ z' tk bg nx c, f_X7_scan_103 N B (f_X7_scan_5 N B m) z (ii L) (ii k) (ii at_) (ii t) (ii k) = some z' ∧ ts b L tk bg nx c ∧ c ≤ L ∧ (∀ j, j ≤ c → z' 0 j = ii (tk j) ∧ z' 1 j = ii (bg j)) ∧ ∀ s, s ≠ 0 → s ≠ 1 → z' s = z s := fun t e hp hb32 hl => by
      obtain ⟨z', tk', bg', nx', c, a1, a2, a3, a4, a5⟩ := ih (at_ + 1) m _ _ _ _ _ _ (by omega) (by omega) (sc_push (tc := ii t) (bc := ii at_) h hatL hp hb32 hl rfl rfl)
      exact ⟨z', tk', bg', nx', c, by rw [e103, a1], a2, a3, a4, fun s s0 s1 => by rw [a5 s s0 s1, up_ne s1, up_ne s0]⟩
    have skipped : (at_ < p ∨ b at_ = 32) → ∃ z' tk bg nx c, f_X7_scan_115 N B (f_X7_scan_5 N B m) z (ii L) (ii k) (ii at_) = some z' ∧ ts b L tk bg nx c ∧ c ≤ L ∧ (∀ j, j ≤ c → z' 0 j = ii (tk j) ∧ z' 1 j = ii (bg j)) ∧ ∀ s, s ≠ 0 → s ≠ 1 → z' s = z s := fun hn => by
      unfold f_X7_scan_115
      rw [lk_1, ii_add]
      exact ih (at_ + 1) m _ _ _ _ _ _ (by omega) (by omega) (sc_next h hn)
    rw [f_X7_scan_5, e, if_neg nle, if_pos ib]
    unfold f_X7_scan_54
    by_cases i : isl (b at_)
    · have hb32 : b at_ ≠ 32 := fun x => by have := i.1; omega
      have word : p ≤ at_ → ∃ z' tk bg nx c, f_X7_scan_55 N B (f_X7_scan_5 N B m) z (ii L) (ii k) (ii at_) (ii (b at_)) 0 = some z' ∧ ts b L tk bg nx c ∧ c ≤ L ∧ (∀ j, j ≤ c → z' 0 j = ii (tk j) ∧ z' 1 j = ii (bg j)) ∧ ∀ s, s ≠ 0 → s ≠ 1 → z' s = z s := fun hp => by
        obtain ⟨e, w, f⟩ := c_wordEnd (N := N) hN hL hB hatL
        obtain ⟨z', tk', bg', nx', c, a1, a2⟩ := pushed (wk5 b at_ e) e hp hb32 (Or.inr ⟨i, w, rfl⟩)
        refine ⟨z', tk', bg', nx', c, ?_, a2⟩
        unfold f_X7_scan_55
        exact sn (fun x => hb32 (e32.mp x)) (sp rfl (sb (l1 i) (sn n10 (sb f (sb (c_wordToken hN hB hL (by have := w.1; omega) w.2.1) a1)))))
      rw [l1 i, bd_s, lk_0, if_neg n10]
      by_cases c0 : at_ = 0
      · rw [if_pos (by rw [c0]; exact zk (by omega))]
        refine word ?_
        rcases h.2.2.2.2.1 with ⟨_, a, _⟩ | ⟨a, _⟩
        · omega
        · exact a
      · have hb1 := (hB (at_ - 1) (by omega)).1
        obtain ⟨k1, k2⟩ := c_let (N := N) hb1
        have em1 : B (ii at_ - 1).toNatClampNeg &&& 255 = ii (b (at_ - 1)) := by
          rw [lk_1, ii_sub (by omega), ii_nat (by omega), (hB (at_ - 1) (by omega)).2, sx_and hb1]
        have ibm : ql_ib (ii at_ - 1) 300 = true := by rw [lk_1, ii_sub (by omega)]; exact ii_ib (by omega) (by omega)
        rw [if_neg (le_n 0 (by omega) (by omega)), if_pos ibm, em1]
        by_cases i1 : isl (b (at_ - 1))
        · rw [k1 i1, bd_s, if_neg n10]
          have hlt : at_ < p := by
            rcases h.2.2.2.2.1 with ⟨a, _, _⟩ | ⟨a1, a2⟩
            · exact a
            · exfalso
              by_cases c : p = at_
              · rcases h.2.2.2.2.2 with q | q | q | q
                · omega
                · omega
                · rw [c] at q; exact q i
                · rw [c] at q; exact q i1
              · have := a2 (at_ - 1) (by omega) (by omega)
                have := i1.1
                omega
          obtain ⟨z', tk', bg', nx', c, a1, a2⟩ := skipped (Or.inl hlt)
          refine ⟨z', tk', bg', nx', c, ?_, a2⟩
          unfold f_X7_scan_55
          exact sn (fun x => hb32 (e32.mp x)) (sn n10 a1)
        · rw [k2 i1, bd_s, if_pos rfl]
          refine word ?_
          rcases h.2.2.2.2.1 with ⟨a1, a2, a3⟩ | ⟨a, _⟩
          · exact absurd (a3 at_ (Nat.le_refl _) a1).2 i1
          · exact a
    · rw [l2 i, bd_s, lk_0, if_pos rfl]
      unfold f_X7_scan_55
      by_cases c32 : b at_ = 32
      · obtain ⟨z', tk', bg', nx', c, a1, a2⟩ := skipped (Or.inr c32)
        exact ⟨z', tk', bg', nx', c, sp (e32.mpr c32) a1, a2⟩
      · have hp : p ≤ at_ := by
          rcases h.2.2.2.2.1 with ⟨a1, a2, a3⟩ | ⟨a, _⟩
          · exact absurd (a3 at_ (Nat.le_refl _) a1).1 i
          · exact a
        obtain ⟨z', tk', bg', nx', c, a1, a2⟩ := pushed (sg (b at_)) (at_ + 1) hp c32 (Or.inl ⟨i, rfl, rfl⟩)
        exact ⟨z', tk', bg', nx', c, sn (fun x => c32 (e32.mp x)) (sp rfl (sb (l2 i) (sp rfl (sb (c_sign hN hb) a1)))), a2⟩
theorem c_scan {z : ql_St} (hN : 1000 ≤ N) (hL : L ≤ 300) (hB : ∀ j, j < L → b j < 256 ∧ B j = sx (b j)) :
    ∃ z' tk bg nx c, f_X7_scan N B z (ii L) = some z' ∧ ts b L tk bg nx c ∧ c ≤ L ∧ (∀ j, j ≤ c → z' 0 j = ii (tk j) ∧ z' 1 j = ii (bg j)) ∧ ∀ s, s ≠ 0 → s ≠ 1 → z' s = z s := by
  unfold f_X7_scan f_X7_scan_0
  exact c_scan5 hN hL hB L 0 N z (fun _ => 0) (fun _ => 0) (fun _ => 0) 0 0 (by omega) (by omega) ⟨rfl, by omega, by omega, fun j hj => by omega, Or.inr ⟨Nat.le_refl _, fun x x1 x2 => by omega⟩, Or.inl rfl⟩
end
