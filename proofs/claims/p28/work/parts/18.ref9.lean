-- the reference's methods: contracts (part nine): texts
abbrev seesP (tx : Int → Int) (ln sp l h : Int) : Prop := sp < ln ∧ l ≤ tx sp ∧ tx sp ≤ h
def numP (tx : Int → Int) (ln l sp : Int) : Int × Int := if seesP tx ln sp l 57 then (if tx sp - 48 = 1 ∧ seesP tx ln (sp + 1) 48 49 then (10 + tx (sp + 1) - 48, sp + 1 + 1) else (tx sp - 48, sp + 1)) else (-5, sp)
def digP (tx : Int → Int) (ln l sp : Int) : Int × Int := if seesP tx ln sp l 57 then (tx sp - 48, sp + 1) else (-5, sp)
abbrev PT : Type := Int × Int × (Int → Int)
def celP4 (tx : Int → Int) (ln page kind sign least : Int) (mk : Int → Int) (a b sp : Int) : PT :=
  if b < a then (0, sp - 1, mk) else if seesP tx ln sp sign sign then (if 0 ≤ (digP tx ln least (sp + 1)).1 then 1 else 0, (digP tx ln least (sp + 1)).2, mkF page kind a (b - a + 1) (digP tx ln least (sp + 1)).1 mk) else (0, sp, mkF page kind a (b - a + 1) (-5) mk)
def celP2 (tx : Int → Int) (ln page kind sign least : Int) (mk : Int → Int) (a sp : Int) : PT :=
  if seesP tx ln sp 45 45 then (if (numP tx ln 48 (sp + 1)).1 < 0 then (0, (numP tx ln 48 (sp + 1)).2, mk) else celP4 tx ln page kind sign least mk a (numP tx ln 48 (sp + 1)).1 (numP tx ln 48 (sp + 1)).2) else (0, sp, mk)
def celP (tx : Int → Int) (ln page kind sign least : Int) (mk : Int → Int) (sp : Int) : PT :=
  if (numP tx ln 48 sp).1 < 0 then (0, (numP tx ln 48 sp).2, mk) else celP2 tx ln page kind sign least mk (numP tx ln 48 sp).1 (numP tx ln 48 sp).2
def rowL (tx : Int → Int) (ln fr : Int) : Nat → (Int → Int) → Int → (Int → Int) × Int
  | 0, w, sp => (w, sp)
  | f + 1, w, sp => if w 3 < 12 - fr ∧ seesP tx ln sp 48 57 then rowL tx ln fr f (upI (upI w (5 + w 3) (tx sp - 48)) 3 (w 3 + 1)) (sp + 1) else (w, sp)
def rowP2 (tx : Int → Int) (ln page : Int) (mk : Int → Int) (a sp : Int) : PT :=
  if seesP tx ln sp 61 61 then (if 0 < (rowL tx ln a 20 (mkF page 4 a 0 0 mk) (sp + 1)).1 3 then 1 else 0, (rowL tx ln a 20 (mkF page 4 a 0 0 mk) (sp + 1)).2, (rowL tx ln a 20 (mkF page 4 a 0 0 mk) (sp + 1)).1) else (0, sp, mk)
def rowP (tx : Int → Int) (ln page : Int) (mk : Int → Int) (sp : Int) : PT :=
  if (numP tx ln 48 sp).1 < 0 then (0, (numP tx ln 48 sp).2, mk) else rowP2 tx ln page mk (numP tx ln 48 sp).1 (numP tx ln 48 sp).2
def ordP2 (tx : Int → Int) (ln : Int) (mk : Int → Int) (page sp : Int) : PT :=
  if seesP tx ln sp 102 102 then celP tx ln page 1 61 48 mk (sp + 1)
  else if seesP tx ln sp 97 97 then celP tx ln page 2 43 49 mk (sp + 1)
  else if seesP tx ln sp 116 116 then (if 0 < (numP tx ln 49 (sp + 1)).1 then 1 else 0, (numP tx ln 49 (sp + 1)).2, mkF page 3 0 12 (numP tx ln 49 (sp + 1)).1 mk)
  else if seesP tx ln sp 112 112 then (1, sp + 1, mkF page 0 0 12 0 mk)
  else if seesP tx ln sp 114 114 then rowP tx ln page (mkF page 0 0 12 0 mk) (sp + 1)
  else (0, sp, mkF page 0 0 12 0 mk)
def ordP (tx : Int → Int) (ln : Int) (mk : Int → Int) (sp : Int) : PT := if seesP tx ln sp 48 53 then ordP2 tx ln mk (tx sp - 48) (sp + 1) else (0, sp, mk)
theorem numP_b {tx : Int → Int} {ln l sp : Int} (h : sp ≤ ln) (hl : 48 ≤ l) : ((numP tx ln l sp).1 = -5 ∧ (numP tx ln l sp).2 = sp ∨ (0 ≤ (numP tx ln l sp).1 ∧ (numP tx ln l sp).1 ≤ 11 ∧ l - 48 ≤ (numP tx ln l sp).1 ∧ sp < (numP tx ln l sp).2)) ∧ sp ≤ (numP tx ln l sp).2 ∧ (numP tx ln l sp).2 ≤ ln := by
  unfold numP
  split
  · split
    · dsimp only
      omega
    · dsimp only
      omega
  · dsimp only
    omega
theorem digP_b {tx : Int → Int} {ln l sp : Int} (h : sp ≤ ln) (hl : 48 ≤ l) : ((digP tx ln l sp).1 = -5 ∧ (digP tx ln l sp).2 = sp ∨ (0 ≤ (digP tx ln l sp).1 ∧ (digP tx ln l sp).1 ≤ 9 ∧ l - 48 ≤ (digP tx ln l sp).1)) ∧ sp ≤ (digP tx ln l sp).2 ∧ (digP tx ln l sp).2 ≤ ln := by
  unfold digP
  split
  · dsimp only
    omega
  · dsimp only
    omega
theorem rowL_b {tx : Int → Int} {ln fr : Int} (hf : 0 ≤ fr ∧ fr ≤ 11) : ∀ (f : Nat) (mk : Int → Int) (sp : Int), sp ≤ ln → (0 ≤ mk 3 ∧ mk 3 ≤ 12 - fr) → (sp ≤ (rowL tx ln fr f mk sp).2 ∧ (rowL tx ln fr f mk sp).2 ≤ ln) ∧ 0 ≤ (rowL tx ln fr f mk sp).1 3 ∧ (rowL tx ln fr f mk sp).1 3 ≤ 12 - fr
  | 0, w, sp, h, h3 => ⟨⟨Int.le_refl _, h⟩, h3⟩
  | f + 1, w, sp, h, h3 => by
    unfold rowL
    split
    · have := rowL_b (tx := tx) (ln := ln) hf f (upI (upI w (5 + w 3) (tx sp - 48)) 3 (w 3 + 1)) (sp + 1) (by omega) (by rw [upI_s]; omega)
      exact ⟨⟨by omega, this.1.2⟩, this.2⟩
    · exact ⟨⟨Int.le_refl _, h⟩, h3⟩
section
variable {G : GX} {sz : Nat} {m : Mem} {o : Nat} {s sp pa sh tx cl bf mk : Int → Int} {sv ish ln st : Int}
theorem PI.of2 {z z2 : Int} {sz : Nat} {m m2 : Mem} (h : z = z2) (hm : m = m2) : PI z2 sz m2 (some (.inl z)) sz m := ⟨by rw [h], rfl, hm⟩
end
