-- rows written out; what is reckoned of them
def rowD (LL : List (List Int)) : Int → Int := fun j => (LL.getD (j.toNat / 17) []).getD (j.toNat % 17) 0
def ckS (s t : Int → Int) : Bool := (List.range 170).all (fun j => decide (t (j : Int) = s (j : Int))) && (List.range (17 * (s 3 - s 2)).toNat).all (fun j => decide (t (170 + (j : Int)) = s (170 + (j : Int))))
theorem ckS_agr {s t : Int → Int} (h : ckS s t = true) : Agr s t := by
  unfold ckS at h
  rw [Bool.and_eq_true, List.all_eq_true, List.all_eq_true] at h
  refine ⟨fun j j0 j1 => ?_, fun j j0 j1 => ?_⟩
  · have q := h.1 j.toNat (List.mem_range.mpr (by omega))
    rw [decide_eq_true_eq, Int.toNat_of_nonneg j0] at q
    exact q
  · have q := h.2 (j - 170).toNat (List.mem_range.mpr (by omega))
    rw [decide_eq_true_eq, Int.toNat_of_nonneg (by omega), show 170 + (j - 170) = j by omega] at q
    exact q
def ckA (LL : List (List Int)) (w : Int → Int) (ans : Int) (LN : List (List Int)) : Bool := decide (fits1 (rowD LL) (doMk (rowD LL) Zr w)) && decide (doMk (rowD LL) Zr w 1 = ans) && ckS (doS (rowD LL) Zr w) (rowD LN)
