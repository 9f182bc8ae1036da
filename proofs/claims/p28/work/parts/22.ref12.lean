-- the reference's methods: contracts (part twelve): orders that are carried out
theorem rowL_ok {tx : Int → Int} {ln a page : Int} (ha : 0 ≤ a ∧ a ≤ 11) : ∀ (f : Nat) (w : Int → Int) (x : Int), (w 0 = page ∧ w 1 = 4 ∧ w 2 = a ∧ w 4 = 0 ∧ (0 ≤ w 3 ∧ w 3 ≤ 12 - a) ∧ ∀ j, 0 ≤ j → j < 12 → 0 ≤ w (5 + j) ∧ w (5 + j) ≤ 9) → ((rowL tx ln a f w x).1 0 = page ∧ (rowL tx ln a f w x).1 1 = 4 ∧ (rowL tx ln a f w x).1 2 = a ∧ (rowL tx ln a f w x).1 4 = 0 ∧ (0 ≤ (rowL tx ln a f w x).1 3 ∧ (rowL tx ln a f w x).1 3 ≤ 12 - a) ∧ ∀ j, 0 ≤ j → j < 12 → 0 ≤ (rowL tx ln a f w x).1 (5 + j) ∧ (rowL tx ln a f w x).1 (5 + j) ≤ 9)
  | 0, w, x, h => h
  | f + 1, w, x, h => by
    obtain ⟨h0, h1, h2, h4, h3, h5⟩ := h
    by_cases hc : w 3 < 12 - a ∧ seesP tx ln x 48 57
    · rw [rowL_go hc]
      refine rowL_ok ha f _ _ ⟨?_, ?_, ?_, ?_, ?_, fun j j0 j1 => ?_⟩
      · rw [upI_n (by decide), upI_n (by omega)]; exact h0
      · rw [upI_n (by decide), upI_n (by omega)]; exact h1
      · rw [upI_n (by decide), upI_n (by omega)]; exact h2
      · rw [upI_n (by decide), upI_n (by omega)]; exact h4
      · rw [upI_s]; omega
      · rw [upI_n (by omega)]
        by_cases e : 5 + j = 5 + w 3
        · rw [e, upI_s]; omega
        · rw [upI_n e]; exact h5 j j0 j1
    · rw [rowL_stop hc]
      exact ⟨h0, h1, h2, h4, h3, h5⟩
theorem rowP_ok {tx : Int → Int} {ln page : Int} {mk : Int → Int} {sp : Int} (hp : 0 ≤ page ∧ page < 6) (h : sp ≤ ln) : (rowP tx ln page mk sp).1 = 1 → entOK (rowP tx ln page mk sp).2.2 0 ∧ (rowP tx ln page mk sp).2.2 1 ≠ 0 := by
  have b1 := numP_b (tx := tx) (l := 48) h (by decide)
  unfold rowP
  split
  · intro hh; exact absurd hh (show ¬ (0 : Int) = 1 by decide)
  · unfold rowP2
    split
    · obtain ⟨a, ha⟩ : ∃ a, a = (numP tx ln 48 sp).1 := ⟨_, rfl⟩
      rw [← ha] at b1 ⊢
      have e : ∀ j, 0 ≤ j → j < 17 → mkF page 4 a 0 0 mk j = if j = 5 then 0 else if j = 3 then 0 else if j = 2 then a else if j = 1 then 4 else if j = 0 then page else 0 := fun j j0 j1 => mkF_at ⟨j0, j1⟩
      have r := rowL_ok (tx := tx) (ln := ln) (a := a) (page := page) (by omega) 20 (mkF page 4 a 0 0 mk) ((numP tx ln 48 sp).2 + 1) ⟨e 0 (by decide) (by decide), e 1 (by decide) (by decide), e 2 (by decide) (by decide), e 4 (by decide) (by decide), by rw [e 3 (by decide) (by decide)]; simp; omega, fun j j0 j1 => by
        rw [e _ (by omega) (by omega)]
        split
        · decide
        · rw [if_neg (by omega), if_neg (by omega), if_neg (by omega), if_neg (by omega)]; decide⟩
      obtain ⟨w, hw⟩ : ∃ w, w = (rowL tx ln a 20 (mkF page 4 a 0 0 mk) ((numP tx ln 48 sp).2 + 1)).1 := ⟨_, rfl⟩
      rw [← hw] at r ⊢
      obtain ⟨r0, r1, r2, r4, r3, r5⟩ := r
      dsimp only
      intro hh
      have b4 : 0 < w 3 := by
        by_cases q : 0 < w 3
        · exact q
        · rw [if_neg q] at hh; exact absurd hh (by decide)
      have z1 : w (0 + 1) = 4 := r1
      have z2 : w (0 + 2) = a := r2
      have z3 : w (0 + 3) = w 3 := rfl
      have z4 : w (0 + 4) = 0 := r4
      have z5 : ∀ j, w (0 + 5 + j) = w (5 + j) := fun j => rfl
      refine ⟨⟨by omega, by omega, by omega, by omega, fun j j0 j1 => by rw [z5]; exact (r5 j j0 j1).1, fun _ j j0 j1 => by rw [z5]; exact (r5 j j0 j1).2, by omega, by omega, by omega⟩, by omega⟩
    · intro hh; exact absurd hh (show ¬ (0 : Int) = 1 by decide)
