-- the reference's methods: contracts (part seven): log and store
theorem entOK.congr {f g : Int → Int} {a b : Int} (h : entOK f a) (e : ∀ j, 0 ≤ j → j < 17 → g (b + j) = f (a + j)) : entOK g b := by
  have e0 := e 0 (by decide) (by decide)
  rw [Int.add_zero, Int.add_zero] at e0
  have e5 : ∀ j, 0 ≤ j → j < 12 → g (b + 5 + j) = f (a + 5 + j) := fun j j0 j1 => by
    have := e (5 + j) (by omega) (by omega)
    rw [← Int.add_assoc, ← Int.add_assoc] at this
    exact this
  unfold entOK
  rw [e0, e 1 (by decide) (by decide), e 2 (by decide) (by decide), e 3 (by decide) (by decide), e 4 (by decide) (by decide), e 5 (by decide) (by decide)]
  obtain ⟨h1, h2, h3, h4, h5, h6, h7, h8, h9⟩ := h
  exact ⟨h1, h2, h3, h4, fun j j0 j1 => by rw [e5 j j0 j1]; exact h5 j j0 j1, fun q j j0 j1 => by rw [e5 j j0 j1]; exact h6 q j j0 j1, h7, h8, h9⟩
theorem EntS.congr {s t : Int → Int} (h : EntS s) (h2 : t 2 = s 2) (h3 : t 3 ≤ s 3) (he : ∀ j, 170 ≤ j → t j = s j) : EntS t := by
  intro k k0 k1
  refine entOK.congr (h k (by omega) (by omega)) (fun j j0 j1 => ?_)
  unfold atE
  rw [h2]
  exact he _ (by omega)
theorem Num.congr {s t : Int → Int} (h : Num s) (h2 : t 2 = s 2) (h4 : t 4 = s 4) (h3 : s 4 ≤ t 3 ∧ t 3 ≤ s 3) : Num t := by
  unfold Num at h ⊢
  omega
theorem firstDam_b {s : Int → Int} {p e : Int} (h : s 2 ≤ e) : firstDam s p e = -5 ∨ (s 2 ≤ firstDam s p e ∧ firstDam s p e < e) := by
  have := foldD_ind (f := fun found k => if needsP s p k e ∧ ofE s k 4 = 1 then k else found) (z := -5) (b := e) (fun k x => x = -5 ∨ (k ≤ x ∧ x < e)) (Or.inl rfl) (fun k x g0 g1 => by
    try dsimp only
    split <;> omega) (s 2) h
  exact this
theorem start_congr {s t : Int → Int} {p e : Int} (h2 : t 2 = s 2) (hp : t (152 + p) = s (152 + p)) (he : ∀ j, 170 ≤ j → t j = s j) : start t p e = start s p e := by
  unfold start
  rw [h2]
  refine foldI_congr (fun k x k0 k1 => ?_)
  unfold startF ofE atE
  rw [h2, he _ (by omega), he _ (by omega), hp]
theorem firstDam_congr {s t : Int → Int} {p e : Int} (h2 : t 2 = s 2) (hp : t (152 + p) = s (152 + p)) (he : ∀ j, 170 ≤ j → t j = s j) : firstDam t p e = firstDam s p e := by
  unfold firstDam foldD
  rw [h2]
  refine foldI_congr (fun k x k0 k1 => ?_)
  dsimp only [needsP, ofE, atE]
  have e1 := he (170 + 17 * (e - 1 - k - s 2) + 0) (by omega)
  have e2 := he (170 + 17 * (e - 1 - k - s 2) + 4) (by omega)
  simp only [h2, e1, e2, hp, start_congr h2 hp he]
def storeF (s : Int → Int) (p : Int) : Int → Int := upI (upI (cpy s (8 + 12 * p) s (80 + 12 * p) 12) (152 + p) (s 4)) (158 + p) 0
theorem storeF_o {s : Int → Int} {p j : Int} (hp : 0 ≤ p ∧ p < 6) (h : j < 80 ∨ 152 ≤ j) (h1 : j ≠ 152 + p) (h2 : j ≠ 158 + p) : storeF s p j = s j := by
  unfold storeF
  rw [upI_n h2, upI_n h1, cpy_out (by omega)]
def sndE (s : Int → Int) (p : Int) : Nat → Int → Int
  | 0, e => e
  | f + 1, e => if firstDam s p e = -5 then e else sndE s p f (firstDam s p e)
def backD (s : Int → Int) (p : Int) : Int → Int := upI s (158 + p) (if firstDam s p (s 3) = -5 then 0 else 1)
def backE (s : Int → Int) (p : Int) : Int := sndE (backD s p) p 200 (s 3)
def backQ (s cl bf : Int → Int) (p : Int) : (Int → Int) × (Int → Int) := restQ (backD s p) p (backE s p) cl bf
def backS (s cl bf : Int → Int) (p : Int) : Int → Int := cpy (backQ s cl bf p).1 0 (backD s p) (8 + 12 * p) 12
def crF (q : (Int → Int) × (Int → Int) × (Int → Int)) (p : Int) : (Int → Int) × (Int → Int) × (Int → Int) := (backS q.1 q.2.1 q.2.2 p, (backQ q.1 q.2.1 q.2.2 p).1, (backQ q.1 q.2.1 q.2.2 p).2)
def crQ (s cl bf : Int → Int) : (Int → Int) × (Int → Int) × (Int → Int) := foldI crF (upI s 3 (s 4), cl, bf) 0 6
def crashF (s cl bf : Int → Int) : Int → Int := upI (crQ s cl bf).1 7 ((crQ s cl bf).1 7 + 1)
theorem backD_n {s : Int → Int} {p j : Int} (h : j ≠ 158 + p) : backD s p j = s j := upI_n h
theorem sndE_b {s : Int → Int} {p : Int} : ∀ (f : Nat) (e : Int), s 2 ≤ e → s 2 ≤ sndE s p f e ∧ sndE s p f e ≤ e
  | 0, e, h => ⟨h, Int.le_refl _⟩
  | f + 1, e, h => by
    unfold sndE
    split
    · exact ⟨h, Int.le_refl _⟩
    · rename_i hx
      have h1 := firstDam_b (p := p) h
      have := sndE_b (s := s) (p := p) f (firstDam s p e) (by omega)
      omega
def dmgZ (s : Int → Int) : Int := foldI (fun n p => n + (if firstDam s p (s 3) = -5 then 0 else 1)) 0 0 6
section
variable {G : GX} {sz : Nat} {m : Mem} {o : Nat} {s sp pa sh tx cl bf mk : Int → Int} {sv ish ln st : Int}
end
