-- the reference's methods: contracts (part eight): crash, what is told
def needsMany (s : Int → Int) (p : Int) : Int := foldI (fun n k => n + b2 (needsP s p k (s 3))) 0 (s 2) (s 3)
def fndD (s : Int → Int) (p found k : Int) : Int := if needsP s p k (s 3) then k else found
def fnd (s : Int → Int) (p : Int) : Int := foldD (fndD s p) (-5) (s 3) (s 2)
theorem fnd_none {s : Int → Int} {p a : Int} (h : ∀ j, a ≤ j → j < s 3 → ¬ needsP s p j (s 3)) (ha : a ≤ s 3) : foldD (fndD s p) (-5) (s 3) a = -5 := by
  refine foldD_ind (f := fndD s p) (z := -5) (b := s 3) (fun k x => a ≤ k → k ≤ s 3 → x = -5) (fun _ _ => rfl) (fun k x g0 g1 g2 g3 => ?_) a ha (Int.le_refl _) ha
  unfold fndD
  rw [if_neg (h _ g2 (by omega)), g1 (by omega) g0]
theorem foldD_add {α : Type} {f : α → Int → α} {z : α} {a b c : Int} (h1 : c ≤ b) (h2 : b ≤ a) : foldD f z a c = foldD f (foldD f z a b) b c := by
  have := foldD_ind (f := f) (z := foldD f z a b) (b := b) (fun k x => x = foldD f z a k) rfl (fun k x g0 g1 => by rw [g1, foldD_s (by omega)]) c h1
  exact this.symm
theorem fnd_at {s : Int → Int} {p k : Int} (h : ∀ j, s 2 ≤ j → j < k → ¬ needsP s p j (s 3)) (hk : s 2 ≤ k ∧ k < s 3) (hn : needsP s p k (s 3)) : fnd s p = k := by
  unfold fnd
  rw [foldD_add (b := k) hk.1 (by omega)]
  have e : foldD (fndD s p) (-5) (s 3) k = k := by
    have := foldD_s (f := fndD s p) (z := -5) (b := s 3) (k := k + 1) (by omega)
    rw [show k + 1 - 1 = k by omega] at this
    rw [this]
    unfold fndD
    rw [if_pos hn]
  rw [e]
  refine foldD_ind (f := fndD s p) (z := k) (b := k) (fun i x => s 2 ≤ i → x = k) (fun _ => rfl) (fun i x g0 g1 g2 => ?_) (s 2) hk.1 (Int.le_refl _)
  unfold fndD
  rw [if_neg (h _ g2 (by omega)), g1 (by omega)]
def DoubS (s : Int → Int) : Prop := ∀ p, 0 ≤ p → p < 6 → s (158 + p) = 0 ∨ s (158 + p) = 1
theorem Inv.D {B : Int} {s : Int → Int} (h : Inv B s) : DoubS s := fun _ h1 h2 => (h.page h1 h2).2.1
def pageZ (s : Int → Int) (p w : Int) : Int := if w = 0 then timeOf s p else if w = 1 then needsMany s p else if w = 2 then fnd s p else if w = 3 then s (152 + p) else if w = 4 then s (158 + p) else if w = 5 then (if firstDam s p (s 3) = -5 then 0 else 1) else if w = 6 then pict s (8 + 12 * p) else -2
def entryZ (s : Int → Int) (e w : Int) : Int := if w = 0 then ofE s e 0 else if w = 1 then ofE s e 1 else if w = 2 then sizeA s (atE s e) else if w = 3 then timeA s (atE s e) else if w = 4 then b2 (isN s e) else if w = 5 then b2 (e < s 4) else if w = 6 then ofE s e 4 else -2
def bestF (s : Int → Int) (q : Int × Int) (p : Int) : Int × Int := (if q.2 < timeOf s p - pict s (8 + 12 * p) then p else q.1, if q.2 < timeOf s p - pict s (8 + 12 * p) then timeOf s p - pict s (8 + 12 * p) else q.2)
def bestZ (s : Int → Int) : Int := (foldI (bestF s) (-5, 0) 0 6).1
def ofPages (s : Int → Int) (w : Int) : Int := foldI (fun sum p => sum + (if w = 7 then timeOf s p else s (158 + p))) 0 0 6
def countZ (s : Int → Int) (sv ln w : Int) : Int := if w = 0 then s 3 else if w = 1 then s 3 - s 2 else if w = 2 then used s else if w = 3 then s 1 else if w = 4 then s 0 else if w = 5 then neededMany s else if w = 6 then s 3 - s 4 else if w = 7 then ofPages s 7 else if w = 8 then ofPages s 8 else if w = 9 then s 5 else if w = 10 then s 6 else if w = 11 then s 7 else if w = 12 then sv else if w = 13 then ln else -2
theorem timeOf_bb {s : Int → Int} (hN : Num s) (hE : EntS s) {p : Int} : 0 ≤ timeOf s p ∧ timeOf s p ≤ 2705 := by
  obtain ⟨n0, n1, n2, n3, n4⟩ := id hN
  have ht2 := timeOf_b (p := p) hE (z := if start s p (s 3) = -5 then 5 else 0) (by split <;> omega) (k := s 3) (by omega) (Int.le_refl _)
  have ht3 : 0 ≤ timeOf s p ∧ timeOf s p ≤ 5 + 27 * (s 3 - s 2) := ht2
  omega
def asFrF (s : Int → Int) (p f k : Int) : Int := if ofE s k 0 = p ∧ ofE s k 1 = 0 then k else f
def asFr (s : Int → Int) (p e : Int) : Int := foldI (asFrF s p) (-5) (s 2) (e + 1)
def asSt (s : Int → Int) (p e : Int) : Int := if asFr s p e ≠ -5 then asFr s p e else if s 2 < s (152 + p) then s (152 + p) else s 2
def asF (s : Int → Int) (p : Int) (c : Int → Int) (k : Int) : Int → Int := if ofE s k 0 = p then applyF s (atE s k) c else c
def asZ (s cl : Int → Int) (p e : Int) : Int → Int := foldI (asF s p) (cpy s (80 + 12 * p) cl 0 12) (asSt s p e) (e + 1)
section
variable {G : GX} {sz : Nat} {m : Mem} {o : Nat} {s sp pa sh tx cl bf mk : Int → Int} {sv ish ln st : Int}
theorem back_ok {p : Int} (hN : Num s) (hE : EntS s) (hC : CellS s) (hp : 0 ≤ p ∧ p < 6) : Num (backS s cl bf p) ∧ EntS (backS s cl bf p) ∧ CellS (backS s cl bf p) ∧ (∀ j, j < 8 → backS s cl bf p j = s j) := by
  obtain ⟨n0, n1, n2, n3, n4⟩ := id hN
  have lo : ∀ j, j < 8 → backS s cl bf p j = s j := fun j hj => by unfold backS; rw [cpy_out (by omega), backD_n (by omega)]
  have hi : ∀ j, 170 ≤ j → backS s cl bf p j = s j := fun j hj => by unfold backS; rw [cpy_out (by omega), backD_n (by omega)]
  have tn : ∀ j, j ≠ 158 + p → backD s p j = s j := fun j hj => backD_n hj
  have hE2 : EntS (backD s p) := hE.congr (tn 2 (by omega)) (by rw [tn 3 (by omega)]; exact Int.le_refl _) (fun j hj => tn j (by omega))
  have hC2 : CellS (backD s p) := fun i i0 i1 => by rw [tn i (by omega)]; exact hC i i0 i1
  have hb := sndE_b (s := backD s p) (p := p) 200 (s 3) (by rw [tn 2 (by omega)]; omega)
  have eE : backE s p = sndE (backD s p) p 200 (s 3) := rfl
  refine ⟨hN.congr (lo 2 (by decide)) (lo 4 (by decide)) (by rw [lo 3 (by decide)]; omega), hE.congr (lo 2 (by decide)) (by rw [lo 3 (by decide)]; exact Int.le_refl _) hi, fun i i0 i1 => ?_, lo⟩
  unfold backS
  by_cases h : 8 + 12 * p ≤ i ∧ i < 8 + 12 * p + 12
  · rw [cpy_in h]
    exact restQ_b hE2 hC2 hp (by rw [tn 3 (by omega)]; omega) cl bf (k := backE s p) (by omega) (Int.le_refl _) _ (by omega) (by omega)
  · rw [cpy_out (by omega), tn i (by omega)]
    exact hC i i0 i1
end
