-- the reference's methods: contracts (part ten): orders
theorem celP_01 {tx : Int → Int} {ln page kind sign least : Int} {mk : Int → Int} {sp : Int} : (celP tx ln page kind sign least mk sp).1 = 0 ∨ (celP tx ln page kind sign least mk sp).1 = 1 := by
  unfold celP celP2 celP4
  repeat' split
  all_goals simp
theorem rowP_01 {tx : Int → Int} {ln page : Int} {mk : Int → Int} {sp : Int} : (rowP tx ln page mk sp).1 = 0 ∨ (rowP tx ln page mk sp).1 = 1 := by
  unfold rowP rowP2
  repeat' split
  all_goals simp
theorem ordP_01 {tx : Int → Int} {ln : Int} {mk : Int → Int} {sp : Int} : (ordP tx ln mk sp).1 = 0 ∨ (ordP tx ln mk sp).1 = 1 := by
  unfold ordP ordP2
  repeat' split
  all_goals first | exact celP_01 | exact rowP_01 | simp
theorem celP_b {tx : Int → Int} {ln page kind sign least : Int} {mk : Int → Int} {sp : Int} (h : sp ≤ ln) (hl : 48 ≤ least) : (sp ≤ (celP tx ln page kind sign least mk sp).2.1 ∧ (celP tx ln page kind sign least mk sp).2.1 ≤ ln) ∧ ((celP tx ln page kind sign least mk sp).1 ≠ 0 → sp < (celP tx ln page kind sign least mk sp).2.1) := by
  have b1 := numP_b (tx := tx) (l := 48) h (by decide)
  unfold celP
  split
  · dsimp only
    omega
  · unfold celP2
    split
    · have b2 := numP_b (tx := tx) (l := 48) (sp := (numP tx ln 48 sp).2 + 1) (ln := ln) (by omega) (by decide)
      split
      · dsimp only
        omega
      · unfold celP4
        split
        · dsimp only
          omega
        · split
          · have b3 := digP_b (tx := tx) (l := least) (sp := (numP tx ln 48 ((numP tx ln 48 sp).2 + 1)).2 + 1) (ln := ln) (by omega) hl
            dsimp only
            omega
          · dsimp only
            omega
    · dsimp only
      omega
theorem rowP_b {tx : Int → Int} {ln page : Int} {mk : Int → Int} {sp : Int} (h : sp ≤ ln) : (sp ≤ (rowP tx ln page mk sp).2.1 ∧ (rowP tx ln page mk sp).2.1 ≤ ln) ∧ ((rowP tx ln page mk sp).1 ≠ 0 → sp < (rowP tx ln page mk sp).2.1) := by
  have b1 := numP_b (tx := tx) (l := 48) h (by decide)
  unfold rowP
  split
  · dsimp only
    omega
  · unfold rowP2
    split
    · have b2 := rowL_b (tx := tx) (ln := ln) (fr := (numP tx ln 48 sp).1) (by omega) 20 (mkF page 4 (numP tx ln 48 sp).1 0 0 mk) ((numP tx ln 48 sp).2 + 1) (by omega) (by rw [mkF_at (by decide)]; simp; omega)
      dsimp only
      omega
    · dsimp only
      omega
theorem ordP_b {tx : Int → Int} {ln : Int} {mk : Int → Int} {sp : Int} (h : sp ≤ ln) : (sp ≤ (ordP tx ln mk sp).2.1 ∧ (ordP tx ln mk sp).2.1 ≤ ln) ∧ ((ordP tx ln mk sp).1 ≠ 0 → sp + 1 < (ordP tx ln mk sp).2.1) := by
  unfold ordP
  split
  · unfold ordP2
    split
    · have := celP_b (tx := tx) (ln := ln) (page := tx sp - 48) (kind := 1) (sign := 61) (least := 48) (mk := mk) (sp := sp + 1 + 1) (by omega) (by decide)
      omega
    · split
      · have := celP_b (tx := tx) (ln := ln) (page := tx sp - 48) (kind := 2) (sign := 43) (least := 49) (mk := mk) (sp := sp + 1 + 1) (by omega) (by decide)
        omega
      · split
        · have := numP_b (tx := tx) (ln := ln) (l := 49) (sp := sp + 1 + 1) (by omega) (by decide)
          dsimp only
          omega
        · split
          · dsimp only
            omega
          · split
            · have := rowP_b (tx := tx) (ln := ln) (page := tx sp - 48) (mk := mkF (tx sp - 48) 0 0 12 0 mk) (sp := sp + 1 + 1) (by omega)
              omega
            · dsimp only
              omega
  · dsimp only
    omega
theorem rowL_go {tx : Int → Int} {ln a : Int} {f : Nat} {w : Int → Int} {x : Int} (h : w 3 < 12 - a ∧ seesP tx ln x 48 57) : rowL tx ln a (f + 1) w x = rowL tx ln a f (upI (upI w (5 + w 3) (tx x - 48)) 3 (w 3 + 1)) (x + 1) := if_pos h
theorem rowL_stop {tx : Int → Int} {ln a : Int} {f : Nat} {w : Int → Int} {x : Int} (h : ¬ (w 3 < 12 - a ∧ seesP tx ln x 48 57)) : rowL tx ln a (f + 1) w x = (w, x) := if_neg h
def txtP (tx : Int → Int) (ln : Int) : Nat → (Int → Int) → Int → PT
  | 0, w, sp => (0, sp, w)
  | f + 1, w, sp => if (ordP tx ln w sp).1 = 0 then (0, (ordP tx ln w sp).2.1, (ordP tx ln w sp).2.2) else if seesP tx ln (ordP tx ln w sp).2.1 59 59 then txtP tx ln f (ordP tx ln w sp).2.2 ((ordP tx ln w sp).2.1 + 1) else (if (ordP tx ln w sp).2.1 = ln then 1 else 0, (ordP tx ln w sp).2.1, (ordP tx ln w sp).2.2)
section
variable {G : GX} {sz : Nat} {m : Mem} {o : Nat} {s sp pa sh tx cl bf mk : Int → Int} {sv ish ln st : Int}
end
