-- folds over whole numbers
def foldN {α : Type} (f : α → Int → α) (z : α) (a : Int) : Nat → α
  | 0 => z
  | n + 1 => f (foldN f z a n) (a + n)
def foldI {α : Type} (f : α → Int → α) (z : α) (a b : Int) : α := foldN f z a (b - a).toNat
theorem foldI_0 {α : Type} {f : α → Int → α} {z : α} {a b : Int} (h : b ≤ a) : foldI f z a b = z := by
  unfold foldI
  rw [show (b - a).toNat = 0 by omega]
  rfl
theorem foldI_s {α : Type} {f : α → Int → α} {z : α} {a k : Int} (h : a ≤ k) : foldI f z a (k + 1) = f (foldI f z a k) k := by
  unfold foldI
  rw [show (k + 1 - a).toNat = (k - a).toNat + 1 by omega]
  show f _ _ = _
  rw [show a + ((k - a).toNat : Int) = k by omega]
theorem foldI_ind {α : Type} {f : α → Int → α} {z : α} {a : Int} (P : Int → α → Prop) (h0 : P a z) (hs : ∀ k x, a ≤ k → P k x → P (k + 1) (f x k)) : ∀ b, a ≤ b → P b (foldI f z a b) := by
  intro b hb
  obtain ⟨n, hn⟩ : ∃ n : Nat, b = a + n := ⟨(b - a).toNat, by omega⟩
  subst hn
  clear hb
  induction n with
  | zero => rw [foldI_0 (by omega)]; simpa using h0
  | succ n ih =>
    have e : a + ((n + 1 : Nat) : Int) = (a + n) + 1 := by omega
    rw [e, foldI_s (by omega)]
    exact hs _ _ (by omega) ih
theorem foldI_congr {α : Type} {f g : α → Int → α} {z : α} {a b : Int} (h : ∀ k x, a ≤ k → k < b → f x k = g x k) : foldI f z a b = foldI g z a b := by
  unfold foldI
  have : ∀ n : Nat, a + n ≤ b ∨ n = 0 → foldN f z a n = foldN g z a n := by
    intro n
    induction n with
    | zero => intro _; rfl
    | succ n ih =>
      intro hn
      show f _ _ = g _ _
      rw [ih (by omega), h _ _ (by omega) (by omega)]
  exact this _ (by omega)
-- from the end down
def foldD {α : Type} (f : α → Int → α) (z : α) (b a : Int) : α := foldI (fun x j => f x (b - 1 - j)) z 0 (b - a)
theorem foldD_0 {α : Type} {f : α → Int → α} {z : α} {a b : Int} (h : b ≤ a) : foldD f z b a = z := foldI_0 (by omega)
theorem foldD_s {α : Type} {f : α → Int → α} {z : α} {b k : Int} (h : k ≤ b) : foldD f z b (k - 1) = f (foldD f z b k) (k - 1) := by
  unfold foldD
  rw [show b - (k - 1) = (b - k) + 1 by omega, foldI_s (by omega)]
  congr 1
  omega
theorem foldD_ind {α : Type} {f : α → Int → α} {z : α} {b : Int} (P : Int → α → Prop) (h0 : P b z) (hs : ∀ k x, k ≤ b → P k x → P (k - 1) (f x (k - 1))) : ∀ a, a ≤ b → P a (foldD f z b a) := by
  intro a ha
  have h := foldI_ind (f := fun x j => f x (b - 1 - j)) (z := z) (a := 0) (fun j x => P (b - j) x) (by simpa using h0) (fun k x hk hp => by
    have := hs (b - k) x (by omega) hp
    rw [show b - (k + 1) = b - k - 1 by omega, show b - 1 - k = b - k - 1 by omega]
    exact this) (b - a) (by omega)
  rw [show b - (b - a) = a by omega] at h
  exact h
def b2 (P : Prop) [Decidable P] : Int := if P then 1 else 0
theorem b2_t {P : Prop} [Decidable P] (h : P) : b2 P = 1 := if_pos h
theorem b2_f {P : Prop} [Decidable P] (h : ¬ P) : b2 P = 0 := if_neg h
theorem b2_01 {P : Prop} [Decidable P] : b2 P = 0 ∨ b2 P = 1 := by
  unfold b2
  split
  · exact Or.inr rfl
  · exact Or.inl rfl
theorem b2_ne {P : Prop} [Decidable P] (h : b2 P ≠ 0) : P := by
  unfold b2 at h
  split at h
  · assumption
  · exact absurd rfl h
theorem b2_eq {P : Prop} [Decidable P] (h : b2 P = 0) : ¬ P := by
  unfold b2 at h
  split at h
  · cases h
  · assumption
section
variable {m m2 : Mem} {o : Nat} {s sp pa sh tx cl bf mk : Int → Int} {sv ish ln st : Int}
end
section
variable {G : GX} {y : MK} {R : Room} {Qf : QF} {pc pc' : Nat} {L : List (Option AV)} {S : List AV} {sz : Nat} {m : Mem} {k n o : Nat} {s sp pa sh tx cl bf mk : Int → Int} {sv ish ln st : Int}
end
