-- rows that agree where they are read
abbrev Eq17 (f g : Int → Int) : Prop := ∀ j, 0 ≤ j → j < 17 → g j = f j
abbrev Eq12 (f g : Int → Int) : Prop := ∀ j, 0 ≤ j → j < 12 → g j = f j
theorem Eq17.siz {f g : Int → Int} (h : Eq17 f g) : sizeA g 0 = sizeA f 0 := sizeA_congr (fun j j0 j1 => by rw [Int.zero_add]; exact h j j0 j1)
theorem Eq17.tim {f g : Int → Int} (h : Eq17 f g) : timeA g 0 = timeA f 0 := by
  unfold timeA
  rw [h.siz, show (0 : Int) + 1 = 1 from rfl, show (0 : Int) + 3 = 3 from rfl, h 1 (by decide) (by decide), h 3 (by decide) (by decide)]
theorem Eq17.ok {f g : Int → Int} (h : Eq17 f g) (hf : entOK f 0) : entOK g 0 := hf.congr (fun j j0 j1 => by rw [Int.zero_add]; exact h j j0 j1)
theorem Eq12.pic {f g : Int → Int} (h : Eq12 f g) : pict g 0 = pict f 0 := by
  unfold pict pictR
  have : foldI (pictF g 0) 1 1 12 = foldI (pictF f 0) 1 1 12 := foldI_congr (fun k x h0 h1 => by
    unfold pictF
    rw [h _ (by omega) (by omega), h _ (by omega) (by omega)])
  rw [this]
theorem upI_eq12 {f g : Int → Int} (h : Eq12 f g) (i v : Int) : Eq12 (upI f i v) (upI g i v) := by
  intro j j0 j1
  by_cases e : j = i
  · subst e; rw [upI_s, upI_s]
  · rw [upI_n e, upI_n e]; exact h j j0 j1
theorem applyF_congr {f g : Int → Int} {a b : Int} (hf : ∀ j, 0 ≤ j → j < 17 → g (b + j) = f (a + j)) (hr : 0 ≤ f (a + 2) ∧ 1 ≤ f (a + 3) ∧ f (a + 2) + f (a + 3) ≤ 12) {c d : Int → Int} (hc : Eq12 c d) : Eq12 (applyF f a c) (applyF g b d) := by
  have f1 := hf 1 (by decide) (by decide)
  have f2 := hf 2 (by decide) (by decide)
  have f3 := hf 3 (by decide) (by decide)
  have f5 := hf 5 (by decide) (by decide)
  have e : ∀ n : Nat, (n : Int) ≤ 12 → Eq12 (foldI (appF f a c) c 0 n) (foldI (appF g b d) d 0 n) := by
    intro n
    induction n with
    | zero => intro _; rw [foldI_0 (by omega), foldI_0 (by omega)]; exact hc
    | succ n ih =>
      intro hn
      have i1 := ih (by omega)
      rw [show ((n + 1 : Nat) : Int) = (n : Int) + 1 by omega, foldI_s (by omega), foldI_s (by omega)]
      generalize foldI (appF f a c) c 0 (n : Int) = X at i1 ⊢
      generalize foldI (appF g b d) d 0 (n : Int) = Y at i1 ⊢
      unfold appF
      rw [f1, f2, f3, f5]
      by_cases c1 : f (a + 1) = 0
      · rw [if_pos c1, if_pos c1]
        rw [show b + 5 + (n : Int) = b + (5 + n) by omega, hf _ (by omega) (by omega), show a + (5 + (n : Int)) = a + 5 + n by omega]
        exact upI_eq12 i1 _ _
      · rw [if_neg c1, if_neg c1]
        by_cases c2 : f (a + 1) = 3
        · rw [if_pos c2, if_pos c2, hc _ (by omega) (by omega)]
          exact upI_eq12 i1 _ _
        · rw [if_neg c2, if_neg c2]
          by_cases c3 : f (a + 2) ≤ n ∧ (n : Int) ≤ f (a + 2) + f (a + 3) - 1
          · rw [if_pos c3, if_pos c3, hc _ (by omega) (by omega)]
            rw [show b + 5 + (n : Int) - f (a + 2) = b + (5 + n - f (a + 2)) by omega, hf _ (by omega) (by omega), show a + (5 + (n : Int) - f (a + 2)) = a + 5 + n - f (a + 2) by omega]
            exact upI_eq12 i1 _ _
          · rw [if_neg c3, if_neg c3]
            exact i1
  have := e 12 (by decide)
  exact this
theorem cpy_eq12 {s : Int → Int} {a : Int} (c d : Int → Int) : Eq12 (cpy s a c 0 12) (cpy s a d 0 12) := fun j j0 j1 => by rw [cpy_in (by omega), cpy_in (by omega)]
theorem chCl_congr {s c d w v : Int → Int} (hM : entOK w 0) (h : Eq17 w v) : Eq12 (chCl s c w) (chCl s d v) := by
  unfold chCl
  rw [h 0 (by decide) (by decide)]
  exact applyF_congr (fun j j0 j1 => by rw [Int.zero_add]; exact h j j0 j1) hM.2.2.1 (cpy_eq12 c d)
theorem mkF_eq17 {page kind fr many value : Int} (w v : Int → Int) : Eq17 (mkF page kind fr many value w) (mkF page kind fr many value v) := fun j j0 j1 => by rw [mkF_at ⟨j0, j1⟩, mkF_at ⟨j0, j1⟩]
theorem picF_eq17 {page : Int} {c d : Int → Int} (h : Eq12 c d) (w v : Int → Int) : Eq17 (picF page c w) (picF page d v) := by
  intro j j0 j1
  by_cases e : j < 5
  · rw [picF_lo ⟨j0, e⟩, picF_lo ⟨j0, e⟩]
  · have e1 : j = 5 + (j - 5) := by omega
    rw [e1, picF_v (by omega), picF_v (by omega)]
    exact h _ (by omega) (by omega)
theorem chIs_congr {s c d w v : Int → Int} (hM : entOK w 0) (h : Eq17 w v) : chIs s d v ↔ chIs s c w := by
  unfold chIs
  rw [(chCl_congr (s := s) (c := c) (d := d) hM h).pic, h.tim, h 0 (by decide) (by decide)]
theorem chMk_congr {s c d w v : Int → Int} (hM : entOK w 0) (h : Eq17 w v) : Eq17 (chMk s c w) (chMk s d v) := by
  unfold chMk
  by_cases q : chIs s c w
  · rw [if_pos q, if_pos ((chIs_congr hM h).mpr q), h 0 (by decide) (by decide)]
    exact picF_eq17 (chCl_congr hM h) w v
  · rw [if_neg q, if_neg (fun g => q ((chIs_congr hM h).mp g))]
    exact h
theorem cpy_eqf {f g h : Int → Int} {a b n : Int} (e : ∀ j, 0 ≤ j → j < n → g (a + j) = f (a + j)) : cpy g a h b n = cpy f a h b n := by
  funext j
  unfold cpy
  split
  · exact e _ (by omega) (by omega)
  · rfl
theorem fits_congr {s w v : Int → Int} (h : Eq17 w v) : fits1 s v ↔ fits1 s w := by
  unfold fits1
  rw [h.siz]
theorem logsF_congr {s c d w v : Int → Int} (hc : Eq12 c d) (h : Eq17 w v) : logsF s d v = logsF s c w := by
  have e4 : logS4 s d v = logS4 s c w := by
    unfold logS4 logE
    rw [h.siz, h 0 (by decide) (by decide), cpy_eqf (f := c) (g := d) (fun j j0 j1 => by rw [Int.zero_add]; exact hc j j0 j1), cpy_eqf (f := w) (g := v) (fun j j0 j1 => by rw [Int.zero_add]; exact h j j0 j1)]
  unfold logsF logS5
  rw [e4, h 0 (by decide) (by decide), h 1 (by decide) (by decide)]
theorem renMk_congr {s c d w v : Int → Int} (p : Int) : Eq17 (renMk s c w p) (renMk s d v p) := picF_eq17 (cpy_eq12 c d) w v
theorem doCl_congr {s c d w v : Int → Int} (hM : w 1 ≠ 0 → entOK w 0) (h : Eq17 w v) : Eq12 (doCl s c w) (doCl s d v) := by
  unfold doCl
  rw [h 1 (by decide) (by decide), h 0 (by decide) (by decide)]
  by_cases q : w 1 = 0
  · rw [if_pos q, if_pos q]; exact cpy_eq12 c d
  · rw [if_neg q, if_neg q]; exact chCl_congr (hM q) h
theorem doMk_congr {s c d w v : Int → Int} (hM : w 1 ≠ 0 → entOK w 0) (h : Eq17 w v) : Eq17 (doMk s c w) (doMk s d v) := by
  unfold doMk
  rw [h 1 (by decide) (by decide), h 0 (by decide) (by decide)]
  by_cases q : w 1 = 0
  · rw [if_pos q, if_pos q]; exact renMk_congr _
  · rw [if_neg q, if_neg q]; exact chMk_congr (hM q) h
theorem doS_congr {s c d w v : Int → Int} (hM : w 1 ≠ 0 → entOK w 0) (h : Eq17 w v) : doS s d v = doS s c w := by
  unfold doS
  by_cases q : fits1 s (doMk s c w)
  · rw [if_pos q, if_pos ((fits_congr (doMk_congr hM h)).mpr q)]
    exact logsF_congr (doCl_congr hM h) (doMk_congr hM h)
  · rw [if_neg q, if_neg (fun g => q ((fits_congr (doMk_congr hM h)).mp g))]
-- an order doesn't read what was there before it
abbrev EqP (x y : PT) : Prop := y.1 = x.1 ∧ y.2.1 = x.2.1 ∧ (x.1 = 1 → Eq17 x.2.2 y.2.2)
theorem rowL_eq {tx : Int → Int} {ln a : Int} : ∀ (f : Nat) (w v : Int → Int) (x : Int), 0 ≤ a → (0 ≤ w 3 ∧ w 3 ≤ 12) → Eq17 w v → (rowL tx ln a f v x).2 = (rowL tx ln a f w x).2 ∧ Eq17 (rowL tx ln a f w x).1 (rowL tx ln a f v x).1
  | 0, w, v, x, _, _, h => ⟨rfl, h⟩
  | f + 1, w, v, x, ha, h3, h => by
    have e3 := h 3 (by decide) (by decide)
    by_cases hc : w 3 < 12 - a ∧ seesP tx ln x 48 57
    · rw [rowL_go hc, rowL_go (w := v) (by rw [e3]; exact hc), e3]
      refine rowL_eq f _ _ _ ha (by rw [upI_s]; omega) (fun j j0 j1 => ?_)
      by_cases q3 : j = 3
      · subst q3; rw [upI_s, upI_s]
      · rw [upI_n q3, upI_n q3]
        by_cases q5 : j = 5 + w 3
        · subst q5; rw [upI_s, upI_s]
        · rw [upI_n q5, upI_n q5]; exact h j j0 j1
    · rw [rowL_stop hc, rowL_stop (w := v) (by rw [e3]; exact hc)]
      exact ⟨rfl, h⟩
theorem celP_eq {tx : Int → Int} {ln page kind sign least : Int} {w v : Int → Int} {sp : Int} : EqP (celP tx ln page kind sign least w sp) (celP tx ln page kind sign least v sp) := by
  have bad : ∀ (z : Int), EqP (0, z, w) (0, z, v) := fun z => ⟨rfl, rfl, fun h => absurd h (show ¬ (0 : Int) = 1 by decide)⟩
  unfold celP
  by_cases c1 : (numP tx ln 48 sp).1 < 0
  · rw [if_pos c1, if_pos c1]; exact bad _
  · rw [if_neg c1, if_neg c1]
    unfold celP2
    by_cases c2 : seesP tx ln (numP tx ln 48 sp).2 45 45
    · rw [if_pos c2, if_pos c2]
      by_cases c3 : (numP tx ln 48 ((numP tx ln 48 sp).2 + 1)).1 < 0
      · rw [if_pos c3, if_pos c3]; exact bad _
      · rw [if_neg c3, if_neg c3]
        unfold celP4
        by_cases c4 : (numP tx ln 48 ((numP tx ln 48 sp).2 + 1)).1 < (numP tx ln 48 sp).1
        · rw [if_pos c4, if_pos c4]; exact bad _
        · rw [if_neg c4, if_neg c4]
          by_cases c5 : seesP tx ln (numP tx ln 48 ((numP tx ln 48 sp).2 + 1)).2 sign sign
          · rw [if_pos c5, if_pos c5]; exact ⟨rfl, rfl, fun _ => mkF_eq17 w v⟩
          · rw [if_neg c5, if_neg c5]; exact ⟨rfl, rfl, fun _ => mkF_eq17 w v⟩
    · rw [if_neg c2, if_neg c2]; exact bad _
theorem rowP_eq {tx : Int → Int} {ln page : Int} {w v : Int → Int} {sp : Int} (h : sp ≤ ln) : EqP (rowP tx ln page w sp) (rowP tx ln page v sp) := by
  have bad : ∀ (z : Int), EqP (0, z, w) (0, z, v) := fun z => ⟨rfl, rfl, fun h => absurd h (show ¬ (0 : Int) = 1 by decide)⟩
  have b1 := numP_b (tx := tx) (l := 48) h (by decide)
  unfold rowP
  by_cases c1 : (numP tx ln 48 sp).1 < 0
  · rw [if_pos c1, if_pos c1]; exact bad _
  · rw [if_neg c1, if_neg c1]
    unfold rowP2
    by_cases c2 : seesP tx ln (numP tx ln 48 sp).2 61 61
    · rw [if_pos c2, if_pos c2]
      have r := rowL_eq (tx := tx) (ln := ln) (a := (numP tx ln 48 sp).1) 20 (mkF page 4 (numP tx ln 48 sp).1 0 0 w) (mkF page 4 (numP tx ln 48 sp).1 0 0 v) ((numP tx ln 48 sp).2 + 1) (by omega) (by rw [mkF_at (by decide)]; simp) (mkF_eq17 w v)
      refine ⟨?_, ?_, fun _ => r.2⟩
      · dsimp only
        rw [r.2 3 (by decide) (by decide)]
      · dsimp only
        rw [r.1]
    · rw [if_neg c2, if_neg c2]; exact bad _
theorem ordP_eq {tx : Int → Int} {ln : Int} {w v : Int → Int} {sp : Int} (h : sp ≤ ln) : EqP (ordP tx ln w sp) (ordP tx ln v sp) := by
  unfold ordP
  by_cases c0 : seesP tx ln sp 48 53
  · rw [if_pos c0, if_pos c0]
    unfold ordP2
    by_cases c1 : seesP tx ln (sp + 1) 102 102
    · rw [if_pos c1, if_pos c1]; exact celP_eq
    · rw [if_neg c1, if_neg c1]
      by_cases c2 : seesP tx ln (sp + 1) 97 97
      · rw [if_pos c2, if_pos c2]; exact celP_eq
      · rw [if_neg c2, if_neg c2]
        by_cases c3 : seesP tx ln (sp + 1) 116 116
        · rw [if_pos c3, if_pos c3]; exact ⟨rfl, rfl, fun _ => mkF_eq17 w v⟩
        · rw [if_neg c3, if_neg c3]
          by_cases c4 : seesP tx ln (sp + 1) 112 112
          · rw [if_pos c4, if_pos c4]; exact ⟨rfl, rfl, fun _ => mkF_eq17 w v⟩
          · rw [if_neg c4, if_neg c4]
            by_cases c5 : seesP tx ln (sp + 1) 114 114
            · rw [if_pos c5, if_pos c5]; exact rowP_eq (by omega)
            · rw [if_neg c5, if_neg c5]; exact ⟨rfl, rfl, fun _ => mkF_eq17 w v⟩
  · rw [if_neg c0, if_neg c0]
    exact ⟨rfl, rfl, fun h => absurd h (show ¬ (0 : Int) = 1 by decide)⟩
theorem txtP_eq {tx : Int → Int} {ln : Int} : ∀ (f : Nat) (w v : Int → Int) (x : Int), x ≤ ln → (txtP tx ln f v x).1 = (txtP tx ln f w x).1 ∧ (txtP tx ln f v x).2.1 = (txtP tx ln f w x).2.1
  | 0, w, v, x, _ => ⟨rfl, rfl⟩
  | f + 1, w, v, x, hx => by
    have e := ordP_eq (tx := tx) (w := w) (v := v) hx
    have b := ordP_b (tx := tx) (mk := w) hx
    rw [txtP_s (w := w), txtP_s (w := v), e.1, e.2.1]
    by_cases c1 : (ordP tx ln w x).1 = 0
    · rw [if_pos c1, if_pos c1]; exact ⟨rfl, rfl⟩
    · rw [if_neg c1, if_neg c1]
      by_cases c2 : seesP tx ln (ordP tx ln w x).2.1 59 59
      · rw [if_pos c2, if_pos c2]
        exact txtP_eq f _ _ _ (by omega)
      · rw [if_neg c2, if_neg c2]; exact ⟨rfl, rfl⟩
