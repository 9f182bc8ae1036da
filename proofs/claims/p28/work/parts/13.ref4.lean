-- the reference's methods: contracts (part four): restoring, dropping, logging, recording
def CellS (s : Int → Int) : Prop := ∀ i, 8 ≤ i → i < 152 → 0 ≤ s i ∧ s i ≤ 9
theorem Inv.C {B : Int} {s : Int → Int} (h : Inv B s) : CellS s := fun _ h1 h2 => h.cell h1 h2
theorem applyF_b {f : Int → Int} {a : Int} {cl : Int → Int} (h3 : entOK f a) (hc : ∀ k, 0 ≤ k → k < 12 → 0 ≤ cl k ∧ cl k ≤ 9) : ∀ k, 0 ≤ k → k < 12 → 0 ≤ applyF f a cl k ∧ applyF f a cl k ≤ 9 := by
  obtain ⟨-, g1, g2, -, g4, g5, g6, g7, g8⟩ := id h3
  refine foldI_indB (f := appF f a cl) (a := 0) (e := 12) (fun _ c => ∀ k, 0 ≤ k → k < 12 → 0 ≤ c k ∧ c k ≤ 9) hc (fun k c hk0 hk1 hcc => ?_) 12 (by decide) (by decide)
  have up : ∀ (i v : Int), 0 ≤ v → v ≤ 9 → ∀ j, 0 ≤ j → j < 12 → 0 ≤ upI c i v j ∧ upI c i v j ≤ 9 := by
    intro i v v0 v1 j j0 j1
    by_cases hj : j = i
    · subst hj
      rw [upI_s]
      exact ⟨v0, v1⟩
    · rw [upI_n hj]
      exact hcc j j0 j1
  unfold appF
  split
  · rename_i q
    exact up _ _ (g4 k hk0 hk1) (g5 (by omega) k hk0 hk1)
  · split
    · exact up _ _ (hc k hk0 hk1).1 (hc k hk0 hk1).2
    · rename_i q1 q2
      split
      · rename_i q
        have v0 := g4 0 (by decide) (by decide)
        have v1 := g5 q2 0 (by decide) (by decide)
        rw [Int.add_zero] at v0 v1
        refine up _ _ ?_ ?_
        · split
          · exact v0
          · split
            · exact Int.emod_nonneg _ (by decide)
            · have := g4 (k - f (a + 2)) (by omega) (by omega)
              rw [show a + 5 + k - f (a + 2) = a + 5 + (k - f (a + 2)) by omega]
              exact this
        · split
          · exact v1
          · split
            · have := Int.emod_lt_of_pos (cl k + f (a + 5)) (show (0 : Int) < 10 by decide)
              omega
            · have := g5 q2 (k - f (a + 2)) (by omega) (by omega)
              rw [show a + 5 + k - f (a + 2) = a + 5 + (k - f (a + 2)) by omega]
              exact this
      · exact hcc
theorem hold_b {s : Int → Int} (hC : CellS s) {part p : Int} (h0 : part = 8 ∨ part = 80) (hp : 0 ≤ p ∧ p < 6) (cl : Int → Int) : ∀ k, 0 ≤ k → k < 12 → 0 ≤ cpy s (part + 12 * p) cl 0 12 k ∧ cpy s (part + 12 * p) cl 0 12 k ≤ 9 := by
  intro k k0 k1
  rw [cpy_in (by omega)]
  exact hC _ (by omega) (by omega)
def restQ (s : Int → Int) (p e : Int) (cl bf : Int → Int) : (Int → Int) × (Int → Int) := foldI (restF s p e) (cpy s (80 + 12 * p) cl 0 12, bf) (s 2) e
theorem restQ_b {s : Int → Int} (hE : EntS s) (hC : CellS s) {p e : Int} (hp : 0 ≤ p ∧ p < 6) (he : e ≤ s 3) (cl bf : Int → Int) {k : Int} (h1 : s 2 ≤ k) (h2 : k ≤ e) : ∀ j, 0 ≤ j → j < 12 → 0 ≤ (foldI (restF s p e) (cpy s (80 + 12 * p) cl 0 12, bf) (s 2) k).1 j ∧ (foldI (restF s p e) (cpy s (80 + 12 * p) cl 0 12, bf) (s 2) k).1 j ≤ 9 := by
  refine foldI_indB (f := restF s p e) (a := s 2) (e := e) (fun _ q => ∀ j, 0 ≤ j → j < 12 → 0 ≤ q.1 j ∧ q.1 j ≤ 9) (hold_b hC (Or.inr rfl) hp cl) (fun k q g1 g2 g3 => ?_) k h1 h2
  unfold restF
  split
  · exact applyF_b (hE k g1 (by omega)) g3
  · exact g3
def chCl (s cl mk : Int → Int) : Int → Int := applyF mk 0 (cpy s (8 + 12 * mk 0) cl 0 12)
abbrev chIs (s cl mk : Int → Int) : Prop := s 0 = 1 ∨ (s 0 = 2 ∧ pict (chCl s cl mk) 0 < timeOf s (mk 0) + timeA mk 0)
def chMk (s cl mk : Int → Int) : Int → Int := if chIs s cl mk then picF (mk 0) (chCl s cl mk) mk else mk
abbrev fits1 (s mk : Int → Int) : Prop := usedW s (droppable s (s 1 - sizeA mk 0)) ≤ s 1 - sizeA mk 0
def logE (s mk : Int → Int) : Int := 170 + 17 * (s 3 - (s 2 + droppable s (s 1 - sizeA mk 0)))
def logS4 (s cl mk : Int → Int) : Int → Int := cpy cl 0 (cpy mk 0 (upI (dropsF s (droppable s (s 1 - sizeA mk 0))) 3 (s 3 + 1)) (logE s mk) 17) (8 + 12 * mk 0) 12
def logS5 (s cl mk : Int → Int) : Int → Int := upI (logS4 s cl mk) (158 + mk 0) (if mk 1 = 0 then 0 else logS4 s cl mk (158 + mk 0))
def logsF (s cl mk : Int → Int) : Int → Int := upI (logS5 s cl mk) (if mk 1 = 0 then 5 else 6) (logS5 s cl mk (if mk 1 = 0 then 5 else 6) + 1)
def recV (sv : Int) : Int := (if sv = 4 then 3 else sv) + 1
-- dropping leaves all else
theorem dropD {s : Int → Int} (hE : EntS s) {many : Int} (h0 : 0 ≤ many) (h1 : s 2 + many ≤ s 3) : ∀ k, 0 ≤ k → k ≤ many → ∀ j, j < 164 ∨ 170 ≤ j → foldI (fun c k => upI c (164 + ofE s (s 2 + k) 0) (s 2 + k)) s 0 k j = s j := by
  intro k k0 k1
  refine foldI_indB (f := fun c k => upI c (164 + ofE s (s 2 + k) 0) (s 2 + k)) (a := 0) (e := many) (fun _ c => ∀ j, j < 164 ∨ 170 ≤ j → c j = s j) (fun _ _ => rfl) (fun k c g0 g1 g2 j hj => ?_) k k0 k1
  have := hE.p (k := s 2 + k) (by omega) (by omega)
  rw [upI_n (by omega)]
  exact g2 j hj
theorem dropsF_lo {s : Int → Int} (hE : EntS s) {many : Int} (h0 : 0 ≤ many) (h1 : s 2 + many ≤ s 3) {j : Int} (hj : j < 164) (hj2 : j ≠ 2) : dropsF s many j = s j := by
  unfold dropsF
  try dsimp only
  rw [if_neg (by omega), upI_n hj2, dropD hE h0 h1 many h0 (Int.le_refl _) j (Or.inl hj)]
theorem dropsF_2 {s : Int → Int} {many : Int} : dropsF s many 2 = s 2 + many := by
  unfold dropsF
  try dsimp only
  rw [if_neg (by omega), upI_s]
theorem dropsF_e {s : Int → Int} (hE : EntS s) {many : Int} (h0 : 0 ≤ many) (h1 : s 2 + many ≤ s 3) {j : Int} (hj : 170 ≤ j) (hj2 : j < 170 + 17 * (s 3 - (s 2 + many))) : dropsF s many j = s (j + 17 * many) := by
  unfold dropsF
  try dsimp only
  rw [if_pos ⟨hj, hj2⟩, upI_n (by omega), dropD hE h0 h1 many h0 (Int.le_refl _) _ (Or.inr (by omega))]
section
variable {G : GX} {sz : Nat} {m : Mem} {o : Nat} {s sp pa sh tx cl bf mk : Int → Int} {sv ish ln st : Int}
end
