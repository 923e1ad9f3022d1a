/-! five plans in a row; any of them by its number -/
def ql_pls (pad : Nat → Nat → Nat) (cI : ClassId) (P : Nat → ql_St) : va_W := ql_pw (pad 0 100) (pad 0) cI (P 0) ++ (ql_pw (pad 1 100) (pad 1) cI (P 1) ++ (ql_pw (pad 2 100) (pad 2) cI (P 2) ++ (ql_pw (pad 3 100) (pad 3) cI (P 3) ++ ql_pw (pad 4 100) (pad 4) cI (P 4))))
theorem ql_pls_in {pad : Nat → Nat → Nat} {cI : ClassId} {P : Nat → ql_St} {i : Nat} (hi : i < 5) : ∀ x ∈ ql_pw (pad i 100) (pad i) cI (P i), x ∈ ql_pls pad cI P := by
  intro x hx
  unfold ql_pls
  rcases (by omega : i = 0 ∨ i = 1 ∨ i = 2 ∨ i = 3 ∨ i = 4) with rfl | rfl | rfl | rfl | rfl
  · exact List.mem_append_left _ hx
  · exact List.mem_append_right _ (List.mem_append_left _ hx)
  · exact List.mem_append_right _ (List.mem_append_right _ (List.mem_append_left _ hx))
  · exact List.mem_append_right _ (List.mem_append_right _ (List.mem_append_right _ (List.mem_append_left _ hx)))
  · exact List.mem_append_right _ (List.mem_append_right _ (List.mem_append_right _ (List.mem_append_right _ hx)))
theorem ql_pl {D : va_G} {H : Heap} {ws : va_W} {pad : Nat → Nat → Nat} {cI : ClassId} {P : Nat → ql_St} {i : Nat} (n : Nat) (hP : va_P D vwCl ws H) (hd : ws.drop n = ql_pls pad cI P) (hi : i < 5) : va_P D vwCl (ql_pw (pad i 100) (pad i) cI (P i)) H := by
  intro k q hk
  have h1 : q ∈ ws.drop n := by rw [hd]; exact ql_pls_in hi q (List.mem_of_getElem? hk)
  obtain ⟨j, hj⟩ := List.getElem?_of_mem (List.mem_of_mem_drop h1)
  exact hP j q hj
theorem ql_lt {i : Int32} {n : Nat} (h : vp_in i n) : i.toNatClampNeg < n := Nat.not_le.mp (fun q => h (Or.inr q))
def ql_ig (n : Int32) (k : Nat) : Bool := !(decide (n < 0)) && decide (n.toNatClampNeg ≤ k)
theorem ql_ig0 {n : Int32} {k : Nat} (h : ql_ig n k = true) : ¬ n < 0 ∧ n.toNatClampNeg ≤ k := by
  simp only [ql_ig, Bool.and_eq_true, Bool.not_eq_true', decide_eq_false_iff_not, decide_eq_true_eq] at h
  exact h
theorem ql_ig1 {z n : Int32} {k m : Nat} (h : n.toNatClampNeg ≤ k) (hz : z.toNatClampNeg = 0) (hk : k ≤ m) : z.toNatClampNeg + n.toNatClampNeg ≤ m := by omega
