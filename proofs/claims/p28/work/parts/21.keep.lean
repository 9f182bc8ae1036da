-- what the acts leave: the row after an act, and that it keeps the laws
theorem dropP {s : Int → Int} (hE : EntS s) {n : Int} (h0 : 0 ≤ n) (h1 : s 2 + n ≤ s 3) {p : Int} (hp : 0 ≤ p ∧ p < 6) : dropsF s n (164 + p) = foldI (fun x k => if ofE s (s 2 + k) 0 = p then s 2 + k else x) (s (164 + p)) 0 n := by
  have e : ∀ k, 0 ≤ k → k ≤ n → foldI (fun c k => upI c (164 + ofE s (s 2 + k) 0) (s 2 + k)) s 0 k (164 + p) = foldI (fun x k => if ofE s (s 2 + k) 0 = p then s 2 + k else x) (s (164 + p)) 0 k := by
    intro k k0 k1
    obtain ⟨j, hj⟩ : ∃ j : Nat, k = j := ⟨k.toNat, by omega⟩
    subst hj
    clear k0
    induction j with
    | zero => rw [foldI_0 (by omega), foldI_0 (by omega)]
    | succ j ih =>
      have i1 := ih (by omega)
      have hq := hE.p (k := s 2 + j) (by omega) (by omega)
      rw [show ((j + 1 : Nat) : Int) = (j : Int) + 1 by omega, foldI_s (by omega), foldI_s (by omega)]
      by_cases hc : ofE s (s 2 + (j : Int)) 0 = p
      · rw [if_pos hc, hc, upI_s]
      · rw [if_neg hc, upI_n (by omega)]
        exact i1
  unfold dropsF
  rw [if_neg (by omega), upI_n (by omega)]
  exact e n h0 (Int.le_refl _)
theorem dropP_b {s : Int → Int} (hE : EntS s) {n : Int} (h0 : 0 ≤ n) (h1 : s 2 + n ≤ s 3) {p : Int} (hp : 0 ≤ p ∧ p < 6) (hs : 0 ≤ s 2) (h : s (164 + p) = -5 ∨ (0 ≤ s (164 + p) ∧ s (164 + p) < s 2)) : dropsF s n (164 + p) = -5 ∨ (0 ≤ dropsF s n (164 + p) ∧ dropsF s n (164 + p) < s 2 + n) := by
  rw [dropP hE h0 h1 hp]
  refine foldI_indB (f := fun x k => if ofE s (s 2 + k) 0 = p then s 2 + k else x) (a := 0) (e := n) (fun k x => x = -5 ∨ (0 ≤ x ∧ x < s 2 + k)) (by omega) (fun k x g0 g1 g2 => ?_) n h0 (Int.le_refl _)
  split <;> omega
abbrev logN (s mk : Int → Int) : Int := droppable s (s 1 - sizeA mk 0)
theorem lg_out {s cl mk : Int → Int} {j : Int} (h5 : j ≠ 5) (h6 : j ≠ 6) (hd : j ≠ 158 + mk 0) : logsF s cl mk j = logS4 s cl mk j := by
  unfold logsF logS5
  rw [upI_n (by split <;> omega), upI_n hd]
theorem lg_lo {s cl mk : Int → Int} (hN : Num s) (hE : EntS s) (hM : entOK mk 0) {j : Int} (hj : j < 8 ∨ (152 ≤ j ∧ j < 164)) (h2 : j ≠ 2) (h3 : j ≠ 3) : logS4 s cl mk j = s j := by
  obtain ⟨n0, n1, n2, n3, n4⟩ := id hN
  have hd := droppable_b (most := s 1 - sizeA mk 0) hN
  have hp : 0 ≤ mk 0 ∧ mk 0 < 6 := hM.1
  unfold logS4
  rw [cpy_out (by omega), cpy_out (by unfold logE; omega), upI_n h3, dropsF_lo hE hd.1 (by omega) (by omega) h2]
theorem lg_2 {s cl mk : Int → Int} (hN : Num s) (hM : entOK mk 0) : logsF s cl mk 2 = s 2 + logN s mk := by
  obtain ⟨n0, n1, n2, n3, n4⟩ := id hN
  have hd := droppable_b (most := s 1 - sizeA mk 0) hN
  have hp : 0 ≤ mk 0 ∧ mk 0 < 6 := hM.1
  rw [lg_out (by decide) (by decide) (by omega)]
  unfold logS4
  rw [cpy_out (by omega), cpy_out (by unfold logE; omega), upI_n (by decide), dropsF_2]
theorem lg_5 {s cl mk : Int → Int} (hN : Num s) (hE : EntS s) (hM : entOK mk 0) : logsF s cl mk 5 = s 5 + (if mk 1 = 0 then 1 else 0) := by
  have hp : 0 ≤ mk 0 ∧ mk 0 < 6 := hM.1
  have e : logS5 s cl mk 5 = s 5 := by
    unfold logS5
    rw [upI_n (by omega), lg_lo hN hE hM (by decide) (by decide) (by decide)]
  unfold logsF
  by_cases h : mk 1 = 0
  · rw [if_pos h, if_pos h, upI_s, e]
  · rw [if_neg h, if_neg h, upI_n (by decide), e, Int.add_zero]
theorem lg_6 {s cl mk : Int → Int} (hN : Num s) (hE : EntS s) (hM : entOK mk 0) : logsF s cl mk 6 = s 6 + (if mk 1 = 0 then 0 else 1) := by
  have hp : 0 ≤ mk 0 ∧ mk 0 < 6 := hM.1
  have e : logS5 s cl mk 6 = s 6 := by
    unfold logS5
    rw [upI_n (by omega), lg_lo hN hE hM (by decide) (by decide) (by decide)]
  unfold logsF
  by_cases h : mk 1 = 0
  · rw [if_pos h, if_pos h, upI_n (by decide), e, Int.add_zero]
  · rw [if_neg h, if_neg h, upI_s, e]
theorem lg_0 {s cl mk : Int → Int} (hN : Num s) (hE : EntS s) (hM : entOK mk 0) {j : Int} (hj : j < 8) (h2 : j ≠ 2) (h3 : j ≠ 3) (h5 : j ≠ 5) (h6 : j ≠ 6) : logsF s cl mk j = s j := by
  have hp : 0 ≤ mk 0 ∧ mk 0 < 6 := hM.1
  rw [lg_out h5 h6 (by omega), lg_lo hN hE hM (Or.inl hj) h2 h3]
theorem lg_cell {s cl mk : Int → Int} (hN : Num s) (hE : EntS s) (hM : entOK mk 0) {j : Int} (hj : 8 ≤ j ∧ j < 152) : logsF s cl mk j = if 8 + 12 * mk 0 ≤ j ∧ j < 8 + 12 * mk 0 + 12 then cl (0 + (j - (8 + 12 * mk 0))) else s j := by
  obtain ⟨n0, n1, n2, n3, n4⟩ := id hN
  have hd := droppable_b (most := s 1 - sizeA mk 0) hN
  have hp : 0 ≤ mk 0 ∧ mk 0 < 6 := hM.1
  rw [lg_out (by omega) (by omega) (by omega)]
  unfold logS4
  by_cases h : 8 + 12 * mk 0 ≤ j ∧ j < 8 + 12 * mk 0 + 12
  · rw [if_pos h, cpy_in h]
  · rw [if_neg h, cpy_out (by omega), cpy_out (by unfold logE; omega), upI_n (by omega), dropsF_lo hE hd.1 (by omega) (by omega) (by omega)]
theorem lg_since {s cl mk : Int → Int} (hN : Num s) (hE : EntS s) (hM : entOK mk 0) {j : Int} (hj : 152 ≤ j ∧ j < 158) : logsF s cl mk j = s j := by
  have hp : 0 ≤ mk 0 ∧ mk 0 < 6 := hM.1
  rw [lg_out (by omega) (by omega) (by omega), lg_lo hN hE hM (Or.inr (by omega)) (by omega) (by omega)]
theorem lg_doubt {s cl mk : Int → Int} (hN : Num s) (hE : EntS s) (hM : entOK mk 0) {j : Int} (hj : 158 ≤ j ∧ j < 164) : logsF s cl mk j = if j = 158 + mk 0 ∧ mk 1 = 0 then 0 else s j := by
  have hp : 0 ≤ mk 0 ∧ mk 0 < 6 := hM.1
  have e := lg_lo (cl := cl) hN hE hM (j := j) (Or.inr (by omega)) (by omega) (by omega)
  unfold logsF logS5
  rw [upI_n (by split <;> omega)]
  by_cases h : j = 158 + mk 0
  · rw [h] at e ⊢
    rw [upI_s]
    by_cases h2 : mk 1 = 0
    · rw [if_pos h2, if_pos ⟨rfl, h2⟩]
    · rw [if_neg h2, if_neg (fun g => h2 g.2), e]
  · rw [upI_n h, if_neg (fun g => h g.1), e]
theorem lg_drop {s cl mk : Int → Int} (hN : Num s) (hM : entOK mk 0) {j : Int} (hj : 164 ≤ j ∧ j < 170) : logsF s cl mk j = dropsF s (logN s mk) j := by
  obtain ⟨n0, n1, n2, n3, n4⟩ := id hN
  have hd := droppable_b (most := s 1 - sizeA mk 0) hN
  have hp : 0 ≤ mk 0 ∧ mk 0 < 6 := hM.1
  rw [lg_out (by omega) (by omega) (by omega)]
  unfold logS4
  rw [cpy_out (by omega), cpy_out (by unfold logE; omega), upI_n (by omega)]
theorem lg_old {s cl mk : Int → Int} (hN : Num s) (hE : EntS s) (hM : entOK mk 0) {k j : Int} (hk : s 2 + logN s mk ≤ k ∧ k < s 3) (hj : 0 ≤ j ∧ j < 17) : logsF s cl mk (170 + 17 * (k - (s 2 + logN s mk)) + j) = s (170 + 17 * (k - s 2) + j) := by
  obtain ⟨n0, n1, n2, n3, n4⟩ := id hN
  have hd := droppable_b (most := s 1 - sizeA mk 0) hN
  have hp : 0 ≤ mk 0 ∧ mk 0 < 6 := hM.1
  unfold logN at *
  rw [lg_out (by omega) (by omega) (by omega)]
  unfold logS4
  rw [cpy_out (by omega), cpy_out (by unfold logE; omega), upI_n (by omega), dropsF_e hE hd.1 (by omega) (by omega) (by omega)]
  congr 1
  omega
theorem lg_new {s cl mk : Int → Int} (hN : Num s) (hM : entOK mk 0) {j : Int} (hj : 0 ≤ j ∧ j < 17) : logsF s cl mk (170 + 17 * (s 3 - (s 2 + logN s mk)) + j) = mk j := by
  obtain ⟨n0, n1, n2, n3, n4⟩ := id hN
  have hd := droppable_b (most := s 1 - sizeA mk 0) hN
  have hp : 0 ≤ mk 0 ∧ mk 0 < 6 := hM.1
  unfold logN at *
  rw [lg_out (by omega) (by omega) (by omega)]
  unfold logS4
  rw [cpy_out (by omega), cpy_in (by unfold logE; omega)]
  congr 1
  unfold logE
  omega
theorem sizeA_congr4 {f g : Int → Int} {a b : Int} (e : ∀ j, 0 ≤ j → j < 17 → j ≠ 4 → g (b + j) = f (a + j)) : sizeA g b = sizeA f a := by
  have hp : pict g (b + 5) = pict f (a + 5) := by
    unfold pict pictR
    have : foldI (pictF g (b + 5)) 1 1 12 = foldI (pictF f (a + 5)) 1 1 12 := foldI_congr (fun k x h0 h1 => by
      unfold pictF
      rw [show b + 5 + k = b + (5 + k) by omega, show b + (5 + k) - 1 = b + (4 + k) by omega, show a + 5 + k = a + (5 + k) by omega, show a + (5 + k) - 1 = a + (4 + k) by omega, e _ (by omega) (by omega) (by omega), e _ (by omega) (by omega) (by omega)])
    rw [this]
  unfold sizeA
  rw [hp, e 1 (by decide) (by decide) (by decide), e 3 (by decide) (by decide) (by decide)]
theorem sizeA_congr {f g : Int → Int} {a b : Int} (e : ∀ j, 0 ≤ j → j < 17 → g (b + j) = f (a + j)) : sizeA g b = sizeA f a := sizeA_congr4 (fun j j0 j1 _ => e j j0 j1)
theorem Inv.log {B : Int} {s cl mk : Int → Int} (h : Inv B s) (hB : B + 1 ≤ 20000) (hM : entOK mk 0) (hf : fits1 s mk) (hc : ∀ k, 0 ≤ k → k < 12 → 0 ≤ cl k ∧ cl k ≤ 9) : Inv (B + 1) (logsF s cl mk) := by
  have hN := h.N
  have hE := h.E
  have hn := h.num
  have hp : 0 ≤ mk 0 ∧ mk 0 < 6 := hM.1
  have hd := droppable_b (most := s 1 - sizeA mk 0) hN
  have f0 := lg_0 (cl := cl) hN hE hM (j := 0) (by decide) (by decide) (by decide) (by decide) (by decide)
  have f1 := lg_0 (cl := cl) hN hE hM (j := 1) (by decide) (by decide) (by decide) (by decide) (by decide)
  have f2 := lg_2 (cl := cl) hN hM
  have f3 := logsF_3 (cl := cl) hN hE hM
  have f4 := lg_0 (cl := cl) hN hE hM (j := 4) (by decide) (by decide) (by decide) (by decide) (by decide)
  have f5 := lg_5 (cl := cl) hN hE hM
  have f6 := lg_6 (cl := cl) hN hE hM
  have f7 := lg_0 (cl := cl) hN hE hM (j := 7) (by decide) (by decide) (by decide) (by decide) (by decide)
  have hh := fits_held hN hE hM (by omega) hf
  unfold logN at f2
  have eo : ∀ k, s 2 + droppable s (s 1 - sizeA mk 0) ≤ k → k < s 3 → ∀ j, 0 ≤ j → j < 17 → logsF s cl mk (atE (logsF s cl mk) k + j) = s (atE s k + j) := by
    intro k k0 k1 j j0 j1
    have := lg_old (cl := cl) hN hE hM (k := k) (j := j) ⟨k0, k1⟩ ⟨j0, j1⟩
    dsimp only [atE]
    rw [f2]
    exact this
  have en : ∀ j, 0 ≤ j → j < 17 → logsF s cl mk (atE (logsF s cl mk) (s 3) + j) = mk (0 + j) := by
    intro j j0 j1
    have := lg_new (s := s) (cl := cl) hN hM (j := j) ⟨j0, j1⟩
    dsimp only [atE]
    rw [f2, this, Int.zero_add]
  have s5 : (if mk 1 = 0 then (1 : Int) else 0) = 0 ∨ (if mk 1 = 0 then (1 : Int) else 0) = 1 := by split <;> omega
  have s6 : (if mk 1 = 0 then (0 : Int) else 1) = 0 ∨ (if mk 1 = 0 then (0 : Int) else 1) = 1 := by split <;> omega
  refine ⟨by omega, by omega, by omega, by omega, by omega, by omega, fun i i0 i1 => ?_, fun p p0 p1 => ⟨?_, ?_, ?_⟩, fun k k0 k1 => ?_, ?_, hB⟩
  · rw [lg_cell hN hE hM ⟨i0, i1⟩]
    split
    · exact hc _ (by omega) (by omega)
    · exact h.cell i0 i1
  · rw [lg_since hN hE hM (by omega), f4]
    exact (h.page p0 p1).1
  · rw [lg_doubt hN hE hM (by omega)]
    split
    · exact Or.inl rfl
    · exact (h.page p0 p1).2.1
  · rw [lg_drop hN hM (by omega), f2]
    exact dropP_b hE hd.1 (by omega) ⟨p0, p1⟩ (by omega) (h.page p0 p1).2.2
  · by_cases hk : k = s 3
    · subst hk
      exact hM.congr en
    · exact (hE k (by omega) (by omega)).congr (eo k (by omega) (by omega))
  · unfold fits1 at hf
    rw [usedW_eq hd.1 (by omega)] at hf
    rw [used_eq, f1, f2, f3, sumI_s (by omega), sumI_congr (g := fun k => sizeA s (atE s k)) (fun k k0 k1 => sizeA_congr (eo k k0 k1)), sizeA_congr en]
    omega
theorem Inv.congr {B : Int} {s t : Int → Int} (h : Inv B s) (e : ∀ j, 0 ≤ j → j < 1870 → t j = s j) : Inv B t := by
  have hn := h.num
  have e0 := e 0 (by decide) (by decide)
  have e1 := e 1 (by decide) (by decide)
  have e2 := e 2 (by decide) (by decide)
  have e3 := e 3 (by decide) (by decide)
  have e4 := e 4 (by decide) (by decide)
  have e5 := e 5 (by decide) (by decide)
  have e6 := e 6 (by decide) (by decide)
  have e7 := e 7 (by decide) (by decide)
  have eo : ∀ k, s 2 ≤ k → k < s 3 → ∀ j, 0 ≤ j → j < 17 → t (atE t k + j) = s (atE s k + j) := by
    intro k k0 k1 j j0 j1
    dsimp only [atE]
    rw [e2]
    exact e _ (by omega) (by omega)
  refine ⟨by omega, by omega, by omega, by omega, by omega, by omega, fun i i0 i1 => ?_, fun p p0 p1 => ?_, fun k k0 k1 => ?_, ?_, by omega⟩
  · rw [e i (by omega) (by omega)]; exact h.cell i0 i1
  · rw [e (152 + p) (by omega) (by omega), e (158 + p) (by omega) (by omega), e (164 + p) (by omega) (by omega), e4, e2]; exact h.page p0 p1
  · exact (h.ent (by omega) (by omega)).congr (eo k (by omega) (by omega))
  · have hr := h.room
    rw [used_eq] at hr
    rw [used_eq, e1, e2, e3, sumI_congr (g := fun k => sizeA s (atE s k)) (fun k k0 k1 => sizeA_congr (eo k k0 k1))]
    exact hr
-- what changes neither the entries nor the numbers of them
theorem Inv.same {B C : Int} {s t : Int → Int} (h : Inv B s) (hBC : B ≤ C ∧ C ≤ 20000) (h0 : 0 ≤ t 0 ∧ t 0 ≤ 2) (h1 : t 1 = s 1) (h2 : t 2 = s 2) (h3 : t 3 = s 3) (h4 : s 4 ≤ t 4 ∧ t 4 ≤ s 3) (h5 : t 5 = s 5) (h6 : t 6 = s 6) (h7 : 0 ≤ t 7 ∧ t 7 ≤ C) (hc : CellS t) (hp : ∀ p, 0 ≤ p → p < 6 → (0 ≤ t (152 + p) ∧ t (152 + p) ≤ t 4) ∧ (t (158 + p) = 0 ∨ t (158 + p) = 1) ∧ t (164 + p) = s (164 + p)) (he : ∀ j, 170 ≤ j → t j = s j) : Inv C t := by
  have hn := h.num
  have eo : ∀ k, s 2 ≤ k → ∀ j, 0 ≤ j → j < 17 → t (atE t k + j) = s (atE s k + j) := by
    intro k k0 j j0 j1
    dsimp only [atE]
    rw [h2]
    exact he _ (by omega)
  refine ⟨by omega, by omega, by omega, by omega, by omega, by omega, hc, fun p p0 p1 => ⟨(hp p p0 p1).1, (hp p p0 p1).2.1, ?_⟩, fun k k0 k1 => ?_, ?_, by omega⟩
  · rw [(hp p p0 p1).2.2, h2]; exact (h.page p0 p1).2.2
  · exact (h.ent (by omega) (by omega)).congr (eo k (by omega))
  · have hr := h.room
    rw [used_eq] at hr
    rw [used_eq, h1, h2, h3, sumI_congr (g := fun k => sizeA s (atE s k)) (fun k k0 k1 => sizeA_congr (eo k k0))]
    exact hr
theorem Inv.way {B w : Int} {s : Int → Int} (h : Inv B s) (hw : 0 ≤ w ∧ w ≤ 2) : Inv B (upI s 0 w) := by
  have hn := h.num
  have e : ∀ j, j ≠ 0 → upI s 0 w j = s j := fun j hj => upI_n hj
  refine h.same (C := B) (by omega) (by rw [upI_s]; exact hw) (e 1 (by decide)) (e 2 (by decide)) (e 3 (by decide)) (by rw [e 4 (by decide)]; omega) (e 5 (by decide)) (e 6 (by decide)) (by rw [e 7 (by decide)]; omega) (fun i i0 i1 => by rw [e i (by omega)]; exact h.cell i0 i1) (fun p p0 p1 => ?_) (fun j hj => e j (by omega))
  rw [e (152 + p) (by omega), e (158 + p) (by omega), e (164 + p) (by omega), e 4 (by decide)]
  exact ⟨(h.page p0 p1).1, (h.page p0 p1).2.1, rfl⟩
theorem Inv.flush {B : Int} {s : Int → Int} (h : Inv B s) : Inv B (upI s 4 (s 3)) := by
  have hn := h.num
  have e : ∀ j, j ≠ 4 → upI s 4 (s 3) j = s j := fun j hj => upI_n hj
  refine h.same (C := B) (by omega) (by rw [e 0 (by decide)]; omega) (e 1 (by decide)) (e 2 (by decide)) (e 3 (by decide)) (by rw [upI_s]; omega) (e 5 (by decide)) (e 6 (by decide)) (by rw [e 7 (by decide)]; omega) (fun i i0 i1 => by rw [e i (by omega)]; exact h.cell i0 i1) (fun p p0 p1 => ?_) (fun j hj => e j (by omega))
  rw [e (152 + p) (by omega), e (158 + p) (by omega), e (164 + p) (by omega), upI_s]
  have := (h.page p0 p1).1
  exact ⟨by omega, (h.page p0 p1).2.1, rfl⟩
theorem Inv.store {B p : Int} {s : Int → Int} (h : Inv B s) (hp : 0 ≤ p ∧ p < 6) : Inv B (storeF s p) := by
  have hn := h.num
  have e : ∀ j, j < 80 ∨ 152 ≤ j → j ≠ 152 + p → j ≠ 158 + p → storeF s p j = s j := fun j g0 g1 g2 => storeF_o hp g0 g1 g2
  have e4 := e 4 (by omega) (by omega) (by omega)
  refine h.same (C := B) (by omega) (by rw [e 0 (by omega) (by omega) (by omega)]; omega) (e 1 (by omega) (by omega) (by omega)) (e 2 (by omega) (by omega) (by omega)) (e 3 (by omega) (by omega) (by omega)) (by omega) (e 5 (by omega) (by omega) (by omega)) (e 6 (by omega) (by omega) (by omega)) (by rw [e 7 (by omega) (by omega) (by omega)]; omega) (fun i i0 i1 => ?_) (fun q q0 q1 => ?_) (fun j hj => e j (by omega) (by omega) (by omega))
  · unfold storeF
    rw [upI_n (by omega), upI_n (by omega)]
    unfold cpy
    split
    · exact h.cell (by omega) (by omega)
    · exact h.cell i0 i1
  · rw [e (164 + q) (by omega) (by omega) (by omega), e4]
    refine ⟨?_, ?_, rfl⟩
    · by_cases hq : q = p
      · subst hq
        unfold storeF
        rw [upI_n (by omega), upI_s]
        omega
      · rw [e _ (by omega) (by omega) (by omega)]
        exact (h.page q0 q1).1
    · by_cases hq : q = p
      · subst hq
        unfold storeF
        rw [upI_s]
        exact Or.inl rfl
      · rw [e _ (by omega) (by omega) (by omega)]
        exact (h.page q0 q1).2.1
theorem Inv.cut {B : Int} {s : Int → Int} (h : Inv B s) : Inv B (upI s 3 (s 4)) := by
  have hn := h.num
  have e : ∀ j, j ≠ 3 → upI s 3 (s 4) j = s j := fun j hj => upI_n hj
  have e0 := e 0 (by decide)
  have e1 := e 1 (by decide)
  have e2 := e 2 (by decide)
  have e3 : upI s 3 (s 4) 3 = s 4 := upI_s
  have e4 := e 4 (by decide)
  have e5 := e 5 (by decide)
  have e6 := e 6 (by decide)
  have e7 := e 7 (by decide)
  have eo : ∀ k, s 2 ≤ k → ∀ j, 0 ≤ j → j < 17 → upI s 3 (s 4) (atE (upI s 3 (s 4)) k + j) = s (atE s k + j) := by
    intro k k0 j j0 j1
    dsimp only [atE]
    rw [e2]
    exact e _ (by omega)
  refine ⟨by omega, by omega, by omega, by omega, by omega, by omega, fun i i0 i1 => ?_, fun p p0 p1 => ?_, fun k k0 k1 => ?_, ?_, by omega⟩
  · rw [e i (by omega)]; exact h.cell i0 i1
  · rw [e (152 + p) (by omega), e (158 + p) (by omega), e (164 + p) (by omega), e4, e2]; exact h.page p0 p1
  · exact (h.ent (by omega) (by omega)).congr (eo k (by omega))
  · have hr := h.room
    have h9 := sumI_lo (f := fun k => sizeA s (atE s k)) (a := s 4) (b := s 3) (c := 0) (by omega) (fun k k0 k1 => by have := (h.E.sz (k := k) (by omega) k1).1; dsimp only [atE]; omega) (Int.le_refl _)
    rw [used_eq, sumI_add (b := s 4) (by omega) _ (by omega)] at hr
    rw [used_eq, e1, e2, e3, sumI_congr (g := fun k => sizeA s (atE s k)) (fun k k0 k1 => sizeA_congr (eo k k0))]
    omega
theorem Inv.crash {B : Int} {s : Int → Int} (cl bf : Int → Int) (h : Inv B s) (hB : B + 1 ≤ 20000) : Inv (B + 1) (crashF s cl bf) := by
  have hn := h.num
  have h1 := h.cut
  have hk := foldI_indB (f := crF) (z := (upI s 3 (s 4), cl, bf)) (a := 0) (e := 6) (fun _ q => Num q.1 ∧ EntS q.1 ∧ CellS q.1 ∧ DoubS q.1 ∧ ∀ j, j < 8 ∨ (152 ≤ j ∧ j < 158) ∨ 164 ≤ j → q.1 j = upI s 3 (s 4) j) ⟨h1.N, h1.E, h1.C, h1.D, fun _ _ => rfl⟩ (fun p q p0 p1 hq => by
    obtain ⟨qN, qE, qC, qD, qe⟩ := hq
    obtain ⟨bN, bE, bC, b0⟩ := back_ok (cl := q.2.1) (bf := q.2.2) qN qE qC ⟨p0, p1⟩
    refine ⟨bN, bE, bC, fun r r0 r1 => ?_, fun j hj => ?_⟩
    · show backS q.1 q.2.1 q.2.2 p (158 + r) = 0 ∨ backS q.1 q.2.1 q.2.2 p (158 + r) = 1
      unfold backS
      rw [cpy_out (by omega)]
      by_cases hr : r = p
      · subst hr
        unfold backD
        rw [upI_s]
        split <;> omega
      · rw [backD_n (by omega)]
        exact qD r r0 r1
    · rw [← qe j hj]
      show backS q.1 q.2.1 q.2.2 p j = q.1 j
      unfold backS
      rw [cpy_out (by omega), backD_n (by omega)]) 6 (by decide) (Int.le_refl _)
  obtain ⟨kN, kE, kC, kD, ke⟩ := hk
  have et : ∀ j, j ≠ 7 → crashF s cl bf j = (foldI crF (upI s 3 (s 4), cl, bf) 0 6).1 j := fun j hj => upI_n hj
  have e7 : crashF s cl bf 7 = (foldI crF (upI s 3 (s 4), cl, bf) 0 6).1 7 + 1 := upI_s
  have u7 : upI s 3 (s 4) 7 = s 7 := upI_n (by decide)
  have u3 : upI s 3 (s 4) 3 = s 4 := upI_s
  have u4 : upI s 3 (s 4) 4 = s 4 := upI_n (by decide)
  have u0 : upI s 3 (s 4) 0 = s 0 := upI_n (by decide)
  refine h1.same (C := B + 1) (by omega) (by rw [et 0 (by decide), ke 0 (by decide)]; omega) (by rw [et 1 (by decide), ke 1 (by decide)]) (by rw [et 2 (by decide), ke 2 (by decide)]) (by rw [et 3 (by decide), ke 3 (by decide)]) (by rw [et 4 (by decide), ke 4 (by decide)]; omega) (by rw [et 5 (by decide), ke 5 (by decide)]) (by rw [et 6 (by decide), ke 6 (by decide)]) (by rw [e7, ke 7 (by decide)]; omega) (fun i i0 i1 => by rw [et i (by omega)]; exact kC i i0 i1) (fun p p0 p1 => ?_) (fun j hj => by rw [et j (by omega), ke j (by omega)])
  rw [et (152 + p) (by omega), et (158 + p) (by omega), et (164 + p) (by omega), et 4 (by decide), ke 4 (by decide), ke (152 + p) (by omega), ke (164 + p) (by omega)]
  exact ⟨(h1.page p0 p1).1, kD p p0 p1, rfl⟩
theorem Inv.damage {B e : Int} {s : Int → Int} (h : Inv B s) (he : s 2 ≤ e ∧ e ≤ s 3 - 1) : Inv B (upI s (170 + 17 * (e - s 2) + 4) 1) := by
  have hn := h.num
  obtain ⟨t, ht⟩ : ∃ t, t = upI s (170 + 17 * (e - s 2) + 4) 1 := ⟨_, rfl⟩
  rw [← ht]
  have en : ∀ j, j ≠ 170 + 17 * (e - s 2) + 4 → t j = s j := fun j hj => by rw [ht]; exact upI_n hj
  have ee : t (170 + 17 * (e - s 2) + 4) = 1 := by rw [ht]; exact upI_s
  have e0 := en 0 (by omega)
  have e1 := en 1 (by omega)
  have e2 := en 2 (by omega)
  have e3 := en 3 (by omega)
  have e4 := en 4 (by omega)
  have e5 := en 5 (by omega)
  have e6 := en 6 (by omega)
  have e7 := en 7 (by omega)
  have eo : ∀ k, s 2 ≤ k → ∀ j, 0 ≤ j → j < 17 → j ≠ 4 → t (atE t k + j) = s (atE s k + j) := by
    intro k k0 j j0 j1 j4
    dsimp only [atE]
    rw [e2]
    exact en _ (by omega)
  refine ⟨by omega, by omega, by omega, by omega, by omega, by omega, fun i i0 i1 => ?_, fun p p0 p1 => ?_, fun k k0 k1 => ?_, ?_, by omega⟩
  · rw [en i (by omega)]; exact h.cell i0 i1
  · rw [en (152 + p) (by omega), en (158 + p) (by omega), en (164 + p) (by omega), e4, e2]; exact h.page p0 p1
  · have hk := h.ent (k := k) (by omega) (by omega)
    have o := eo k (by omega)
    have o0 := o 0 (by decide) (by decide) (by decide)
    rw [Int.add_zero, Int.add_zero] at o0
    have o4 : t (atE t k + 4) = 0 ∨ t (atE t k + 4) = 1 := by
      by_cases hke : k = e
      · subst hke
        dsimp only [atE]
        rw [e2, ee]
        exact Or.inr rfl
      · have := hk.2.2.2.1
        dsimp only [atE] at this ⊢
        rw [e2, en _ (by omega)]
        exact this
    have o5 : ∀ j, 0 ≤ j → j < 12 → t (atE t k + 5 + j) = s (atE s k + 5 + j) := fun j j0 j1 => by
      have := o (5 + j) (by omega) (by omega) (by omega)
      rw [← Int.add_assoc, ← Int.add_assoc] at this
      exact this
    obtain ⟨g0, g1, g2, -, g4, g5, g6, g7, g8⟩ := hk
    unfold entOK
    rw [o0, o 1 (by decide) (by decide) (by decide), o 2 (by decide) (by decide) (by decide), o 3 (by decide) (by decide) (by decide), o 5 (by decide) (by decide) (by decide)]
    exact ⟨g0, g1, g2, o4, fun j j0 j1 => by rw [o5 j j0 j1]; exact g4 j j0 j1, fun q j j0 j1 => by rw [o5 j j0 j1]; exact g5 q j j0 j1, g6, g7, g8⟩
  · have hr := h.room
    rw [used_eq] at hr
    rw [used_eq, e1, e2, e3, sumI_congr (g := fun k => sizeA s (atE s k)) (fun k k0 k1 => sizeA_congr4 (eo k k0))]
    exact hr
theorem Inv.dropR {B n r : Int} {s : Int → Int} (h : Inv B s) (h0 : 0 ≤ n) (h1 : s 2 + n ≤ s 4) (hr : 30 ≤ r ∧ r ≤ 300) (hu : usedW s n ≤ r) : Inv B (upI (dropsF s n) 1 r) := by
  have hn := h.num
  have hE := h.E
  obtain ⟨t, ht⟩ : ∃ t, t = upI (dropsF s n) 1 r := ⟨_, rfl⟩
  rw [← ht]
  have en : ∀ j, j < 164 → j ≠ 1 → j ≠ 2 → t j = s j := fun j j0 j1 j2 => by rw [ht, upI_n j1]; exact dropsF_lo hE h0 (by omega) j0 j2
  have ed : ∀ j, j ≠ 1 → t j = dropsF s n j := fun j hj => by rw [ht, upI_n hj]
  have e0 := en 0 (by decide) (by decide) (by decide)
  have e1 : t 1 = r := by rw [ht, upI_s]
  have e2 : t 2 = s 2 + n := by rw [ed 2 (by decide), dropsF_2]
  have e3 := en 3 (by decide) (by decide) (by decide)
  have e4 := en 4 (by decide) (by decide) (by decide)
  have e5 := en 5 (by decide) (by decide) (by decide)
  have e6 := en 6 (by decide) (by decide) (by decide)
  have e7 := en 7 (by decide) (by decide) (by decide)
  have eo : ∀ k, s 2 + n ≤ k → k < s 3 → ∀ j, 0 ≤ j → j < 17 → t (atE t k + j) = s (atE s k + j) := by
    intro k k0 k1 j j0 j1
    dsimp only [atE]
    rw [e2, ed _ (by omega), dropsF_e hE h0 (by omega) (by omega) (by omega)]
    congr 1
    omega
  refine ⟨by omega, by omega, by omega, by omega, by omega, by omega, fun i i0 i1 => ?_, fun p p0 p1 => ⟨?_, ?_, ?_⟩, fun k k0 k1 => ?_, ?_, by omega⟩
  · rw [en i (by omega) (by omega) (by omega)]; exact h.cell i0 i1
  · rw [en (152 + p) (by omega) (by omega) (by omega), e4]; exact (h.page p0 p1).1
  · rw [en (158 + p) (by omega) (by omega) (by omega)]; exact (h.page p0 p1).2.1
  · rw [ed _ (by omega), e2]; exact dropP_b hE h0 (by omega) ⟨p0, p1⟩ (by omega) (h.page p0 p1).2.2
  · exact (h.ent (by omega) (by omega)).congr (eo k (by omega) (by omega))
  · rw [usedW_eq h0 (by omega)] at hu
    rw [used_eq, e1, e2, e3, sumI_congr (g := fun k => sizeA s (atE s k)) (fun k k0 k1 => sizeA_congr (eo k k0 k1))]
    exact hu
theorem Inv.drops {B n : Int} {s : Int → Int} (h : Inv B s) (h0 : 0 ≤ n) (h1 : s 2 + n ≤ s 4) : Inv B (dropsF s n) := by
  have hn := h.num
  have hu : usedW s n ≤ s 1 := by
    have hr := h.room
    have h9 := sumI_lo (f := fun k => sizeA s (atE s k)) (a := s 2) (b := s 2 + n) (c := 0) (by omega) (fun k k0 k1 => by have := (h.E.sz (k := k) (by omega) (by omega)).1; dsimp only [atE]; omega) (Int.le_refl _)
    rw [used_eq, sumI_add (b := s 2 + n) (by omega) _ (by omega)] at hr
    rw [usedW_eq h0 (by omega)]
    omega
  refine (h.dropR h0 h1 (by omega) hu).congr (fun j _ _ => ?_)
  by_cases hj : j = 1
  · subst hj
    rw [upI_s]
    exact dropsF_lo h.E h0 (by omega) (by decide) (by decide)
  · rw [upI_n hj]
