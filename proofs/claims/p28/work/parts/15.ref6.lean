-- the reference's methods: contracts (part six): acts
def sumI (f : Int → Int) (a b : Int) : Int := foldI (fun x k => x + f k) 0 a b
theorem sumI_0 {f : Int → Int} {a b : Int} (h : b ≤ a) : sumI f a b = 0 := foldI_0 h
theorem sumI_s {f : Int → Int} {a k : Int} (h : a ≤ k) : sumI f a (k + 1) = sumI f a k + f k := foldI_s h
theorem sumI_add {f : Int → Int} {a b : Int} (hab : a ≤ b) : ∀ c, b ≤ c → sumI f a c = sumI f a b + sumI f b c := by
  intro c hc
  obtain ⟨n, hn⟩ : ∃ n : Nat, c = b + n := ⟨(c - b).toNat, by omega⟩
  subst hn
  clear hc
  induction n with
  | zero => rw [sumI_0 (a := b) (by omega), show b + ((0 : Nat) : Int) = b by omega]; omega
  | succ n ih => rw [show b + ((n + 1 : Nat) : Int) = (b + n) + 1 by omega, sumI_s (by omega), sumI_s (by omega), ih]; omega
theorem sumI_congr {f g : Int → Int} {a b : Int} (h : ∀ k, a ≤ k → k < b → f k = g k) : sumI f a b = sumI g a b := foldI_congr (fun k x h0 h1 => by rw [h k h0 h1])
theorem sumI_lo {f : Int → Int} {a b c : Int} (hab : a ≤ b) (h : ∀ k, a ≤ k → k < b → c ≤ f k) (hc : 0 ≤ c) : c * (b - a) ≤ sumI f a b := by
  have := foldI_indB (f := fun x k => x + f k) (z := 0) (a := a) (e := b) (fun k x => c * (k - a) ≤ x) (by simp) (fun k x g0 g1 g2 => by
    have := h k g0 g1
    have e : c * (k + 1 - a) = c * (k - a) + c := by rw [show k + 1 - a = (k - a) + 1 by omega, Int.mul_add]; omega
    omega) b hab (Int.le_refl _)
  exact this
theorem used_eq {s : Int → Int} : used s = sumI (fun k => sizeA s (atE s k)) (s 2) (s 3) := rfl
theorem usedW_eq {s : Int → Int} {n : Int} (h0 : 0 ≤ n) (h1 : s 2 + n ≤ s 3) : usedW s n = sumI (fun k => sizeA s (atE s k)) (s 2 + n) (s 3) := by
  have e : ∀ k, 0 ≤ k → s 2 + k ≤ s 3 → usedW s k = sumI (fun k => sizeA s (atE s k)) (s 2 + k) (s 3) := by
    intro k hk
    obtain ⟨j, hj⟩ : ∃ j : Nat, k = j := ⟨k.toNat, by omega⟩
    subst hj
    clear hk
    induction j with
    | zero => intro _; unfold usedW; rw [foldI_0 (by omega), used_eq, show s 2 + ((0 : Nat) : Int) = s 2 by omega]
    | succ j ih =>
      intro hj
      have i1 := ih (by omega)
      unfold usedW at i1 ⊢
      rw [show ((j + 1 : Nat) : Int) = (j : Int) + 1 by omega, foldI_s (by omega), i1, sumI_add (b := s 2 + ((j : Int) + 1)) (by omega) (s 3) (by omega), show s 2 + ((j : Int) + 1) = s 2 + (j : Int) + 1 by omega, sumI_s (Int.le_refl _), sumI_0 (Int.le_refl _)]
      omega
  exact e n h0 h1
theorem fits_held {s mk : Int → Int} (hN : Num s) (hE : EntS s) (hM : entOK mk 0) (h1 : s 1 ≤ 300) (hf : fits1 s mk) : s 3 - (s 2 + droppable s (s 1 - sizeA mk 0)) < 100 := by
  obtain ⟨n0, n1, n2, n3, n4⟩ := id hN
  have hd := droppable_b (most := s 1 - sizeA mk 0) hN
  have hs := sizeA_b hM
  unfold fits1 at hf
  rw [usedW_eq hd.1 (by omega)] at hf
  have := sumI_lo (f := fun k => sizeA s (atE s k)) (a := s 2 + droppable s (s 1 - sizeA mk 0)) (b := s 3) (c := 3) (by omega) (fun k k0 k1 => (hE.sz (by omega) k1).1) (by decide)
  omega
section
variable {G : GX} {sz : Nat} {m : Mem} {o : Nat} {s sp pa sh tx cl bf mk : Int → Int} {sv ish ln st : Int}
def renCl (s cl : Int → Int) (p : Int) : Int → Int := cpy s (8 + 12 * p) cl 0 12
def renMk (s cl mk : Int → Int) (p : Int) : Int → Int := picF p (renCl s cl p) mk
theorem logsF_3 {s cl mk : Int → Int} (hN : Num s) (hE : EntS s) (hM : entOK mk 0) : logsF s cl mk 3 = s 3 + 1 := by
  obtain ⟨n0, n1, n2, n3, n4⟩ := id hN
  have hd := droppable_b (most := s 1 - sizeA mk 0) hN
  have hp : 0 ≤ mk 0 ∧ mk 0 < 6 := hM.1
  unfold logsF logS5 logS4
  rw [upI_n (by split <;> omega), upI_n (by omega), cpy_out (by omega), cpy_out (by unfold logE; omega), upI_s]
end
