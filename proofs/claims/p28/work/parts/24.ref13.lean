-- the reference's methods: contracts (part thirteen): readOrders
def Zr : Int → Int := fun _ => 0
def ordW (tx : Int → Int) (ln x : Int) : Int → Int := (ordP tx ln Zr x).2.2
def ordE (tx : Int → Int) (ln x : Int) : Int := (ordP tx ln Zr x).2.1
def ordsP (tx : Int → Int) (ln : Int) : Nat → (Int → Int) → Int → Option (Int → Int)
  | 0, _, _ => none
  | f + 1, s, x => if fits1 s (doMk s Zr (ordW tx ln x)) then (if seesP tx ln (ordE tx ln x) 59 59 then ordsP tx ln f (doS s Zr (ordW tx ln x)) (ordE tx ln x + 1) else some (doS s Zr (ordW tx ln x))) else none
theorem ordsP_s {tx : Int → Int} {ln : Int} {f : Nat} {s : Int → Int} {x : Int} : ordsP tx ln (f + 1) s x = if fits1 s (doMk s Zr (ordW tx ln x)) then (if seesP tx ln (ordE tx ln x) 59 59 then ordsP tx ln f (doS s Zr (ordW tx ln x)) (ordE tx ln x + 1) else some (doS s Zr (ordW tx ln x))) else none := rfl
theorem Inv.mono {B C : Int} {s : Int → Int} (h : Inv B s) (hBC : B ≤ C ∧ C ≤ 20000) : Inv C s := by
  have hn := h.num
  exact h.same hBC (by omega) rfl rfl rfl (by omega) rfl rfl (by omega) h.C (fun p p0 p1 => ⟨(h.page p0 p1).1, (h.page p0 p1).2.1, rfl⟩) (fun _ _ => rfl)
theorem doCl_b {s cl mk : Int → Int} (hC : CellS s) (hM : mk 1 ≠ 0 → entOK mk 0) (hp : 0 ≤ mk 0 ∧ mk 0 < 6) : ∀ k, 0 ≤ k → k < 12 → 0 ≤ doCl s cl mk k ∧ doCl s cl mk k ≤ 9 := by
  unfold doCl
  by_cases q : mk 1 = 0
  · rw [if_pos q]; exact hold_b hC (Or.inl rfl) hp cl
  · rw [if_neg q]; exact chCl_b hC (hM q)
theorem Inv.does {B : Int} {s mk : Int → Int} (cl : Int → Int) (h : Inv B s) (hB : B + 1 ≤ 20000) (hM : mk 1 ≠ 0 → entOK mk 0) (hp : 0 ≤ mk 0 ∧ mk 0 < 6) : Inv (B + 1) (doS s cl mk) := by
  unfold doS
  split
  · exact h.log hB (doMk_ok h.C hM hp) (by assumption) (doCl_b h.C hM hp)
  · exact h.mono (by omega)
theorem txtP_b {tx : Int → Int} {ln : Int} : ∀ (f : Nat) (w : Int → Int) (x : Int), x ≤ ln → x ≤ (txtP tx ln f w x).2.1 ∧ (txtP tx ln f w x).2.1 ≤ ln
  | 0, w, x, h => ⟨Int.le_refl _, h⟩
  | f + 1, w, x, h => by
    have b := ordP_b (tx := tx) (ln := ln) (mk := w) h
    rw [txtP_s]
    split
    · dsimp only; omega
    · split
      · have := txtP_b (tx := tx) (ln := ln) f (ordP tx ln w x).2.2 ((ordP tx ln w x).2.1 + 1) (by omega)
        omega
      · dsimp only; omega
section
variable {G : GX} {sz : Nat} {m : Mem} {o : Nat} {s sp pa sh tx cl bf mk : Int → Int} {sv ish ln st : Int}
end
