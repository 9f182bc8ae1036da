theorem mkF_at {page kind fr many value : Int} {mk : Int → Int} {j : Int} (h : 0 ≤ j ∧ j < 17) : mkF page kind fr many value mk j = if j = 5 then value else if j = 3 then many else if j = 2 then fr else if j = 1 then kind else if j = 0 then page else 0 := by
  unfold mkF upI
  repeat (split; rfl)
  rw [cpy_in (by omega)]
theorem mkF_ok {page kind fr many value : Int} {mk : Int → Int} (h0 : 0 ≤ page ∧ page < 6) (hk : 1 ≤ kind ∧ kind ≤ 3) (hf : 0 ≤ fr ∧ 1 ≤ many ∧ fr + many ≤ 12) (hv : 0 ≤ value) (h9 : kind ≠ 3 → value ≤ 9) (h3 : kind = 3 → 1 ≤ value ∧ value ≤ 11 ∧ fr = 0 ∧ many = 12) (h2 : kind = 2 → 1 ≤ value) : entOK (mkF page kind fr many value mk) 0 := by
  have e : ∀ j, 0 ≤ j → j < 17 → mkF page kind fr many value mk j = if j = 5 then value else if j = 3 then many else if j = 2 then fr else if j = 1 then kind else if j = 0 then page else 0 := fun j j0 j1 => mkF_at ⟨j0, j1⟩
  have e0 : mkF page kind fr many value mk 0 = page := e 0 (by decide) (by decide)
  have e1 : mkF page kind fr many value mk (0 + 1) = kind := e 1 (by decide) (by decide)
  have e2 : mkF page kind fr many value mk (0 + 2) = fr := e 2 (by decide) (by decide)
  have e3 : mkF page kind fr many value mk (0 + 3) = many := e 3 (by decide) (by decide)
  have e4 : mkF page kind fr many value mk (0 + 4) = 0 := e 4 (by decide) (by decide)
  have e5 : mkF page kind fr many value mk (0 + 5) = value := e 5 (by decide) (by decide)
  have e6 : ∀ j, 0 ≤ j → j < 12 → mkF page kind fr many value mk (0 + 5 + j) = if j = 0 then value else 0 := by
    intro j j0 j1
    rw [e _ (by omega) (by omega)]
    by_cases hj : j = 0
    · subst hj; rfl
    · rw [if_neg (by omega), if_neg (by omega), if_neg (by omega), if_neg (by omega), if_neg (by omega), if_neg hj]
  refine ⟨by omega, by omega, by omega, by omega, fun j j0 j1 => ?_, fun q j j0 j1 => ?_, by omega, by omega, by omega⟩
  · rw [e6 j j0 j1]; split <;> omega
  · rw [e6 j j0 j1]; split <;> omega
theorem picF_lo {page : Int} {cl mk : Int → Int} {j : Int} (h : 0 ≤ j ∧ j < 5) : picF page cl mk j = if j = 3 then 12 else if j = 0 then page else 0 := by
  unfold picF
  rw [cpy_out (by omega), mkF_at (by omega)]
  split
  · omega
  · split
    · rfl
    · split
      · omega
      · split
        · omega
        · rfl
theorem picF_v {page : Int} {cl mk : Int → Int} {j : Int} (h : 0 ≤ j ∧ j < 12) : picF page cl mk (5 + j) = cl j := by
  unfold picF
  rw [cpy_in (by omega)]
  congr 1
  omega
theorem picF_ok {page : Int} {cl mk : Int → Int} (h0 : 0 ≤ page ∧ page < 6) (hc : ∀ k, 0 ≤ k → k < 12 → 0 ≤ cl k ∧ cl k ≤ 9) : entOK (picF page cl mk) 0 := by
  have e0 : picF page cl mk 0 = page := picF_lo (j := 0) (by decide)
  have e1 : picF page cl mk (0 + 1) = 0 := picF_lo (j := 1) (by decide)
  have e2 : picF page cl mk (0 + 2) = 0 := picF_lo (j := 2) (by decide)
  have e3 : picF page cl mk (0 + 3) = 12 := picF_lo (j := 3) (by decide)
  have e4 : picF page cl mk (0 + 4) = 0 := picF_lo (j := 4) (by decide)
  have e6 : ∀ j, 0 ≤ j → j < 12 → picF page cl mk (0 + 5 + j) = cl j := fun j j0 j1 => picF_v ⟨j0, j1⟩
  refine ⟨by omega, by omega, by omega, by omega, fun j j0 j1 => ?_, fun q j j0 j1 => ?_, by omega, by omega, by omega⟩
  · rw [e6 j j0 j1]; exact (hc j j0 j1).1
  · rw [e6 j j0 j1]; exact (hc j j0 j1).2
theorem chCl_b {s cl mk : Int → Int} (hC : CellS s) (hM : entOK mk 0) : ∀ k, 0 ≤ k → k < 12 → 0 ≤ chCl s cl mk k ∧ chCl s cl mk k ≤ 9 := applyF_b hM (hold_b hC (Or.inl rfl) hM.1 cl)
theorem chMk_ok {s cl mk : Int → Int} (hC : CellS s) (hM : entOK mk 0) : entOK (chMk s cl mk) 0 := by
  unfold chMk
  split
  · exact picF_ok hM.1 (chCl_b hC hM)
  · exact hM
section
variable {G : GX} {sz : Nat} {m : Mem} {o : Nat} {s sp pa sh tx cl bf mk : Int → Int} {sv ish ln st : Int}
end
