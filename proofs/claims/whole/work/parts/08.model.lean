-- folds over whole numbers
def foldN {α : Type} (f : α → Int → α) (z : α) (a : Int) : Nat → α
  | 0 => z
  | n + 1 => f (foldN f z a n) (a + n)
def foldI {α : Type} (f : α → Int → α) (z : α) (a b : Int) : α := foldN f z a (b - a).toNat
theorem foldI_0 {α : Type} {f : α → Int → α} {z : α} {a b : Int} (h : b ≤ a) : foldI f z a b = z := by
  unfold foldI
  rw [show (b - a).toNat = 0 by omega]
  rfl
theorem foldI_s {α : Type} {f : α → Int → α} {z : α} {a k : Int} (h : a ≤ k) : foldI f z a (k + 1) = f (foldI f z a k) k := by
  unfold foldI
  rw [show (k + 1 - a).toNat = (k - a).toNat + 1 by omega]
  show f _ _ = _
  rw [show a + ((k - a).toNat : Int) = k by omega]
theorem foldI_ind {α : Type} {f : α → Int → α} {z : α} {a : Int} (P : Int → α → Prop) (h0 : P a z) (hs : ∀ k x, a ≤ k → P k x → P (k + 1) (f x k)) : ∀ b, a ≤ b → P b (foldI f z a b) := by
  intro b hb
  obtain ⟨n, hn⟩ : ∃ n : Nat, b = a + n := ⟨(b - a).toNat, by omega⟩
  subst hn
  clear hb
  induction n with
  | zero => rw [foldI_0 (by omega)]; simpa using h0
  | succ n ih =>
    have e : a + ((n + 1 : Nat) : Int) = (a + n) + 1 := by omega
    rw [e, foldI_s (by omega)]
    exact hs _ _ (by omega) ih
theorem foldI_congr {α : Type} {f g : α → Int → α} {z : α} {a b : Int} (h : ∀ k x, a ≤ k → k < b → f x k = g x k) : foldI f z a b = foldI g z a b := by
  unfold foldI
  have : ∀ n : Nat, a + n ≤ b ∨ n = 0 → foldN f z a n = foldN g z a n := by
    intro n
    induction n with
    | zero => intro _; rfl
    | succ n ih =>
      intro hn
      show f _ _ = g _ _
      rw [ih (by omega), h _ _ (by omega) (by omega)]
  exact this _ (by omega)
-- from the end down
def foldD {α : Type} (f : α → Int → α) (z : α) (b a : Int) : α := foldI (fun x j => f x (b - 1 - j)) z 0 (b - a)
theorem foldD_0 {α : Type} {f : α → Int → α} {z : α} {a b : Int} (h : b ≤ a) : foldD f z b a = z := foldI_0 (by omega)
theorem foldD_s {α : Type} {f : α → Int → α} {z : α} {b k : Int} (h : k ≤ b) : foldD f z b (k - 1) = f (foldD f z b k) (k - 1) := by
  unfold foldD
  rw [show b - (k - 1) = (b - k) + 1 by omega, foldI_s (by omega)]
  congr 1
  omega
theorem foldD_ind {α : Type} {f : α → Int → α} {z : α} {b : Int} (P : Int → α → Prop) (h0 : P b z) (hs : ∀ k x, k ≤ b → P k x → P (k - 1) (f x (k - 1))) : ∀ a, a ≤ b → P a (foldD f z b a) := by
  intro a ha
  have h := foldI_ind (f := fun x j => f x (b - 1 - j)) (z := z) (a := 0) (fun j x => P (b - j) x) (by simpa using h0) (fun k x hk hp => by
    have := hs (b - k) x (by omega) hp
    rw [show b - (k + 1) = b - k - 1 by omega, show b - 1 - k = b - k - 1 by omega]
    exact this) (b - a) (by omega)
  rw [show b - (b - a) = a by omega] at h
  exact h
def b2 (P : Prop) [Decidable P] : Int := if P then 1 else 0
theorem b2_t {P : Prop} [Decidable P] (h : P) : b2 P = 1 := if_pos h
theorem b2_f {P : Prop} [Decidable P] (h : ¬ P) : b2 P = 0 := if_neg h
theorem b2_01 {P : Prop} [Decidable P] : b2 P = 0 ∨ b2 P = 1 := by
  unfold b2
  split
  · exact Or.inr rfl
  · exact Or.inl rfl
theorem b2_ne {P : Prop} [Decidable P] (h : b2 P ≠ 0) : P := by
  unfold b2 at h
  split at h
  · assumption
  · exact absurd rfl h
theorem b2_eq {P : Prop} [Decidable P] (h : b2 P = 0) : ¬ P := by
  unfold b2 at h
  split at h
  · cases h
  · assumption
-- the reference's memory: the object at o, its rows behind it
abbrev MU : Type := (Int → Int) × (Int → Int) × (Int → Int) × Int × (Int → Int) × Int × (Int → Int) × Int × (Int → Int) × (Int → Int) × (Int → Int) × Int
def uS (μ : MU) : Int → Int := μ.1
def wS (μ : MU) (x : Int → Int) : MU := (x, μ.2)
def uSp (μ : MU) : Int → Int := μ.2.1
def wSp (μ : MU) (x : Int → Int) : MU := (μ.1, x, μ.2.2)
def uPa (μ : MU) : Int → Int := μ.2.2.1
def wPa (μ : MU) (x : Int → Int) : MU := (μ.1, μ.2.1, x, μ.2.2.2)
def uSv (μ : MU) : Int := μ.2.2.2.1
def wSv (μ : MU) (x : Int) : MU := (μ.1, μ.2.1, μ.2.2.1, x, μ.2.2.2.2)
def uSh (μ : MU) : Int → Int := μ.2.2.2.2.1
def wSh (μ : MU) (x : Int → Int) : MU := (μ.1, μ.2.1, μ.2.2.1, μ.2.2.2.1, x, μ.2.2.2.2.2)
def uIs (μ : MU) : Int := μ.2.2.2.2.2.1
def wIs (μ : MU) (x : Int) : MU := (μ.1, μ.2.1, μ.2.2.1, μ.2.2.2.1, μ.2.2.2.2.1, x, μ.2.2.2.2.2.2)
def uTx (μ : MU) : Int → Int := μ.2.2.2.2.2.2.1
def wTx (μ : MU) (x : Int → Int) : MU := (μ.1, μ.2.1, μ.2.2.1, μ.2.2.2.1, μ.2.2.2.2.1, μ.2.2.2.2.2.1, x, μ.2.2.2.2.2.2.2)
def uLn (μ : MU) : Int := μ.2.2.2.2.2.2.2.1
def wLn (μ : MU) (x : Int) : MU := (μ.1, μ.2.1, μ.2.2.1, μ.2.2.2.1, μ.2.2.2.2.1, μ.2.2.2.2.2.1, μ.2.2.2.2.2.2.1, x, μ.2.2.2.2.2.2.2.2)
def uCl (μ : MU) : Int → Int := μ.2.2.2.2.2.2.2.2.1
def wCl (μ : MU) (x : Int → Int) : MU := (μ.1, μ.2.1, μ.2.2.1, μ.2.2.2.1, μ.2.2.2.2.1, μ.2.2.2.2.2.1, μ.2.2.2.2.2.2.1, μ.2.2.2.2.2.2.2.1, x, μ.2.2.2.2.2.2.2.2.2)
def uBf (μ : MU) : Int → Int := μ.2.2.2.2.2.2.2.2.2.1
def wBf (μ : MU) (x : Int → Int) : MU := (μ.1, μ.2.1, μ.2.2.1, μ.2.2.2.1, μ.2.2.2.2.1, μ.2.2.2.2.2.1, μ.2.2.2.2.2.2.1, μ.2.2.2.2.2.2.2.1, μ.2.2.2.2.2.2.2.2.1, x, μ.2.2.2.2.2.2.2.2.2.2)
def uMk (μ : MU) : Int → Int := μ.2.2.2.2.2.2.2.2.2.2.1
def wMk (μ : MU) (x : Int → Int) : MU := (μ.1, μ.2.1, μ.2.2.1, μ.2.2.2.1, μ.2.2.2.2.1, μ.2.2.2.2.2.1, μ.2.2.2.2.2.2.1, μ.2.2.2.2.2.2.2.1, μ.2.2.2.2.2.2.2.2.1, μ.2.2.2.2.2.2.2.2.2.1, x, μ.2.2.2.2.2.2.2.2.2.2.2)
def uSt (μ : MU) : Int := μ.2.2.2.2.2.2.2.2.2.2.2
def wSt (μ : MU) (x : Int) : MU := (μ.1, μ.2.1, μ.2.2.1, μ.2.2.2.1, μ.2.2.2.2.1, μ.2.2.2.2.2.1, μ.2.2.2.2.2.2.1, μ.2.2.2.2.2.2.2.1, μ.2.2.2.2.2.2.2.2.1, μ.2.2.2.2.2.2.2.2.2.1, μ.2.2.2.2.2.2.2.2.2.2.1, x)
theorem uS_wS (μ : MU) (x : Int → Int) : uS (wS μ x) = x := rfl
theorem uS_wSp (μ : MU) (x : Int → Int) : uS (wSp μ x) = uS μ := rfl
theorem uS_wPa (μ : MU) (x : Int → Int) : uS (wPa μ x) = uS μ := rfl
theorem uS_wSv (μ : MU) (x : Int) : uS (wSv μ x) = uS μ := rfl
theorem uS_wSh (μ : MU) (x : Int → Int) : uS (wSh μ x) = uS μ := rfl
theorem uS_wIs (μ : MU) (x : Int) : uS (wIs μ x) = uS μ := rfl
theorem uS_wTx (μ : MU) (x : Int → Int) : uS (wTx μ x) = uS μ := rfl
theorem uS_wLn (μ : MU) (x : Int) : uS (wLn μ x) = uS μ := rfl
theorem uS_wCl (μ : MU) (x : Int → Int) : uS (wCl μ x) = uS μ := rfl
theorem uS_wBf (μ : MU) (x : Int → Int) : uS (wBf μ x) = uS μ := rfl
theorem uS_wMk (μ : MU) (x : Int → Int) : uS (wMk μ x) = uS μ := rfl
theorem uS_wSt (μ : MU) (x : Int) : uS (wSt μ x) = uS μ := rfl
theorem wS_wS (μ : MU) (x x2 : Int → Int) : wS (wS μ x) x2 = wS μ x2 := rfl
theorem wS_u (μ : MU) : wS μ (uS μ) = μ := rfl
theorem uSp_wS (μ : MU) (x : Int → Int) : uSp (wS μ x) = uSp μ := rfl
theorem uSp_wSp (μ : MU) (x : Int → Int) : uSp (wSp μ x) = x := rfl
theorem uSp_wPa (μ : MU) (x : Int → Int) : uSp (wPa μ x) = uSp μ := rfl
theorem uSp_wSv (μ : MU) (x : Int) : uSp (wSv μ x) = uSp μ := rfl
theorem uSp_wSh (μ : MU) (x : Int → Int) : uSp (wSh μ x) = uSp μ := rfl
theorem uSp_wIs (μ : MU) (x : Int) : uSp (wIs μ x) = uSp μ := rfl
theorem uSp_wTx (μ : MU) (x : Int → Int) : uSp (wTx μ x) = uSp μ := rfl
theorem uSp_wLn (μ : MU) (x : Int) : uSp (wLn μ x) = uSp μ := rfl
theorem uSp_wCl (μ : MU) (x : Int → Int) : uSp (wCl μ x) = uSp μ := rfl
theorem uSp_wBf (μ : MU) (x : Int → Int) : uSp (wBf μ x) = uSp μ := rfl
theorem uSp_wMk (μ : MU) (x : Int → Int) : uSp (wMk μ x) = uSp μ := rfl
theorem uSp_wSt (μ : MU) (x : Int) : uSp (wSt μ x) = uSp μ := rfl
theorem wSp_wSp (μ : MU) (x x2 : Int → Int) : wSp (wSp μ x) x2 = wSp μ x2 := rfl
theorem wSp_u (μ : MU) : wSp μ (uSp μ) = μ := rfl
theorem uPa_wS (μ : MU) (x : Int → Int) : uPa (wS μ x) = uPa μ := rfl
theorem uPa_wSp (μ : MU) (x : Int → Int) : uPa (wSp μ x) = uPa μ := rfl
theorem uPa_wPa (μ : MU) (x : Int → Int) : uPa (wPa μ x) = x := rfl
theorem uPa_wSv (μ : MU) (x : Int) : uPa (wSv μ x) = uPa μ := rfl
theorem uPa_wSh (μ : MU) (x : Int → Int) : uPa (wSh μ x) = uPa μ := rfl
theorem uPa_wIs (μ : MU) (x : Int) : uPa (wIs μ x) = uPa μ := rfl
theorem uPa_wTx (μ : MU) (x : Int → Int) : uPa (wTx μ x) = uPa μ := rfl
theorem uPa_wLn (μ : MU) (x : Int) : uPa (wLn μ x) = uPa μ := rfl
theorem uPa_wCl (μ : MU) (x : Int → Int) : uPa (wCl μ x) = uPa μ := rfl
theorem uPa_wBf (μ : MU) (x : Int → Int) : uPa (wBf μ x) = uPa μ := rfl
theorem uPa_wMk (μ : MU) (x : Int → Int) : uPa (wMk μ x) = uPa μ := rfl
theorem uPa_wSt (μ : MU) (x : Int) : uPa (wSt μ x) = uPa μ := rfl
theorem wPa_wPa (μ : MU) (x x2 : Int → Int) : wPa (wPa μ x) x2 = wPa μ x2 := rfl
theorem wPa_u (μ : MU) : wPa μ (uPa μ) = μ := rfl
theorem uSv_wS (μ : MU) (x : Int → Int) : uSv (wS μ x) = uSv μ := rfl
theorem uSv_wSp (μ : MU) (x : Int → Int) : uSv (wSp μ x) = uSv μ := rfl
theorem uSv_wPa (μ : MU) (x : Int → Int) : uSv (wPa μ x) = uSv μ := rfl
theorem uSv_wSv (μ : MU) (x : Int) : uSv (wSv μ x) = x := rfl
theorem uSv_wSh (μ : MU) (x : Int → Int) : uSv (wSh μ x) = uSv μ := rfl
theorem uSv_wIs (μ : MU) (x : Int) : uSv (wIs μ x) = uSv μ := rfl
theorem uSv_wTx (μ : MU) (x : Int → Int) : uSv (wTx μ x) = uSv μ := rfl
theorem uSv_wLn (μ : MU) (x : Int) : uSv (wLn μ x) = uSv μ := rfl
theorem uSv_wCl (μ : MU) (x : Int → Int) : uSv (wCl μ x) = uSv μ := rfl
theorem uSv_wBf (μ : MU) (x : Int → Int) : uSv (wBf μ x) = uSv μ := rfl
theorem uSv_wMk (μ : MU) (x : Int → Int) : uSv (wMk μ x) = uSv μ := rfl
theorem uSv_wSt (μ : MU) (x : Int) : uSv (wSt μ x) = uSv μ := rfl
theorem wSv_wSv (μ : MU) (x x2 : Int) : wSv (wSv μ x) x2 = wSv μ x2 := rfl
theorem wSv_u (μ : MU) : wSv μ (uSv μ) = μ := rfl
theorem uSh_wS (μ : MU) (x : Int → Int) : uSh (wS μ x) = uSh μ := rfl
theorem uSh_wSp (μ : MU) (x : Int → Int) : uSh (wSp μ x) = uSh μ := rfl
theorem uSh_wPa (μ : MU) (x : Int → Int) : uSh (wPa μ x) = uSh μ := rfl
theorem uSh_wSv (μ : MU) (x : Int) : uSh (wSv μ x) = uSh μ := rfl
theorem uSh_wSh (μ : MU) (x : Int → Int) : uSh (wSh μ x) = x := rfl
theorem uSh_wIs (μ : MU) (x : Int) : uSh (wIs μ x) = uSh μ := rfl
theorem uSh_wTx (μ : MU) (x : Int → Int) : uSh (wTx μ x) = uSh μ := rfl
theorem uSh_wLn (μ : MU) (x : Int) : uSh (wLn μ x) = uSh μ := rfl
theorem uSh_wCl (μ : MU) (x : Int → Int) : uSh (wCl μ x) = uSh μ := rfl
theorem uSh_wBf (μ : MU) (x : Int → Int) : uSh (wBf μ x) = uSh μ := rfl
theorem uSh_wMk (μ : MU) (x : Int → Int) : uSh (wMk μ x) = uSh μ := rfl
theorem uSh_wSt (μ : MU) (x : Int) : uSh (wSt μ x) = uSh μ := rfl
theorem wSh_wSh (μ : MU) (x x2 : Int → Int) : wSh (wSh μ x) x2 = wSh μ x2 := rfl
theorem wSh_u (μ : MU) : wSh μ (uSh μ) = μ := rfl
theorem uIs_wS (μ : MU) (x : Int → Int) : uIs (wS μ x) = uIs μ := rfl
theorem uIs_wSp (μ : MU) (x : Int → Int) : uIs (wSp μ x) = uIs μ := rfl
theorem uIs_wPa (μ : MU) (x : Int → Int) : uIs (wPa μ x) = uIs μ := rfl
theorem uIs_wSv (μ : MU) (x : Int) : uIs (wSv μ x) = uIs μ := rfl
theorem uIs_wSh (μ : MU) (x : Int → Int) : uIs (wSh μ x) = uIs μ := rfl
theorem uIs_wIs (μ : MU) (x : Int) : uIs (wIs μ x) = x := rfl
theorem uIs_wTx (μ : MU) (x : Int → Int) : uIs (wTx μ x) = uIs μ := rfl
theorem uIs_wLn (μ : MU) (x : Int) : uIs (wLn μ x) = uIs μ := rfl
theorem uIs_wCl (μ : MU) (x : Int → Int) : uIs (wCl μ x) = uIs μ := rfl
theorem uIs_wBf (μ : MU) (x : Int → Int) : uIs (wBf μ x) = uIs μ := rfl
theorem uIs_wMk (μ : MU) (x : Int → Int) : uIs (wMk μ x) = uIs μ := rfl
theorem uIs_wSt (μ : MU) (x : Int) : uIs (wSt μ x) = uIs μ := rfl
theorem wIs_wIs (μ : MU) (x x2 : Int) : wIs (wIs μ x) x2 = wIs μ x2 := rfl
theorem wIs_u (μ : MU) : wIs μ (uIs μ) = μ := rfl
theorem uTx_wS (μ : MU) (x : Int → Int) : uTx (wS μ x) = uTx μ := rfl
theorem uTx_wSp (μ : MU) (x : Int → Int) : uTx (wSp μ x) = uTx μ := rfl
theorem uTx_wPa (μ : MU) (x : Int → Int) : uTx (wPa μ x) = uTx μ := rfl
theorem uTx_wSv (μ : MU) (x : Int) : uTx (wSv μ x) = uTx μ := rfl
theorem uTx_wSh (μ : MU) (x : Int → Int) : uTx (wSh μ x) = uTx μ := rfl
theorem uTx_wIs (μ : MU) (x : Int) : uTx (wIs μ x) = uTx μ := rfl
theorem uTx_wTx (μ : MU) (x : Int → Int) : uTx (wTx μ x) = x := rfl
theorem uTx_wLn (μ : MU) (x : Int) : uTx (wLn μ x) = uTx μ := rfl
theorem uTx_wCl (μ : MU) (x : Int → Int) : uTx (wCl μ x) = uTx μ := rfl
theorem uTx_wBf (μ : MU) (x : Int → Int) : uTx (wBf μ x) = uTx μ := rfl
theorem uTx_wMk (μ : MU) (x : Int → Int) : uTx (wMk μ x) = uTx μ := rfl
theorem uTx_wSt (μ : MU) (x : Int) : uTx (wSt μ x) = uTx μ := rfl
theorem wTx_wTx (μ : MU) (x x2 : Int → Int) : wTx (wTx μ x) x2 = wTx μ x2 := rfl
theorem wTx_u (μ : MU) : wTx μ (uTx μ) = μ := rfl
theorem uLn_wS (μ : MU) (x : Int → Int) : uLn (wS μ x) = uLn μ := rfl
theorem uLn_wSp (μ : MU) (x : Int → Int) : uLn (wSp μ x) = uLn μ := rfl
theorem uLn_wPa (μ : MU) (x : Int → Int) : uLn (wPa μ x) = uLn μ := rfl
theorem uLn_wSv (μ : MU) (x : Int) : uLn (wSv μ x) = uLn μ := rfl
theorem uLn_wSh (μ : MU) (x : Int → Int) : uLn (wSh μ x) = uLn μ := rfl
theorem uLn_wIs (μ : MU) (x : Int) : uLn (wIs μ x) = uLn μ := rfl
theorem uLn_wTx (μ : MU) (x : Int → Int) : uLn (wTx μ x) = uLn μ := rfl
theorem uLn_wLn (μ : MU) (x : Int) : uLn (wLn μ x) = x := rfl
theorem uLn_wCl (μ : MU) (x : Int → Int) : uLn (wCl μ x) = uLn μ := rfl
theorem uLn_wBf (μ : MU) (x : Int → Int) : uLn (wBf μ x) = uLn μ := rfl
theorem uLn_wMk (μ : MU) (x : Int → Int) : uLn (wMk μ x) = uLn μ := rfl
theorem uLn_wSt (μ : MU) (x : Int) : uLn (wSt μ x) = uLn μ := rfl
theorem wLn_wLn (μ : MU) (x x2 : Int) : wLn (wLn μ x) x2 = wLn μ x2 := rfl
theorem wLn_u (μ : MU) : wLn μ (uLn μ) = μ := rfl
theorem uCl_wS (μ : MU) (x : Int → Int) : uCl (wS μ x) = uCl μ := rfl
theorem uCl_wSp (μ : MU) (x : Int → Int) : uCl (wSp μ x) = uCl μ := rfl
theorem uCl_wPa (μ : MU) (x : Int → Int) : uCl (wPa μ x) = uCl μ := rfl
theorem uCl_wSv (μ : MU) (x : Int) : uCl (wSv μ x) = uCl μ := rfl
theorem uCl_wSh (μ : MU) (x : Int → Int) : uCl (wSh μ x) = uCl μ := rfl
theorem uCl_wIs (μ : MU) (x : Int) : uCl (wIs μ x) = uCl μ := rfl
theorem uCl_wTx (μ : MU) (x : Int → Int) : uCl (wTx μ x) = uCl μ := rfl
theorem uCl_wLn (μ : MU) (x : Int) : uCl (wLn μ x) = uCl μ := rfl
theorem uCl_wCl (μ : MU) (x : Int → Int) : uCl (wCl μ x) = x := rfl
theorem uCl_wBf (μ : MU) (x : Int → Int) : uCl (wBf μ x) = uCl μ := rfl
theorem uCl_wMk (μ : MU) (x : Int → Int) : uCl (wMk μ x) = uCl μ := rfl
theorem uCl_wSt (μ : MU) (x : Int) : uCl (wSt μ x) = uCl μ := rfl
theorem wCl_wCl (μ : MU) (x x2 : Int → Int) : wCl (wCl μ x) x2 = wCl μ x2 := rfl
theorem wCl_u (μ : MU) : wCl μ (uCl μ) = μ := rfl
theorem uBf_wS (μ : MU) (x : Int → Int) : uBf (wS μ x) = uBf μ := rfl
theorem uBf_wSp (μ : MU) (x : Int → Int) : uBf (wSp μ x) = uBf μ := rfl
theorem uBf_wPa (μ : MU) (x : Int → Int) : uBf (wPa μ x) = uBf μ := rfl
theorem uBf_wSv (μ : MU) (x : Int) : uBf (wSv μ x) = uBf μ := rfl
theorem uBf_wSh (μ : MU) (x : Int → Int) : uBf (wSh μ x) = uBf μ := rfl
theorem uBf_wIs (μ : MU) (x : Int) : uBf (wIs μ x) = uBf μ := rfl
theorem uBf_wTx (μ : MU) (x : Int → Int) : uBf (wTx μ x) = uBf μ := rfl
theorem uBf_wLn (μ : MU) (x : Int) : uBf (wLn μ x) = uBf μ := rfl
theorem uBf_wCl (μ : MU) (x : Int → Int) : uBf (wCl μ x) = uBf μ := rfl
theorem uBf_wBf (μ : MU) (x : Int → Int) : uBf (wBf μ x) = x := rfl
theorem uBf_wMk (μ : MU) (x : Int → Int) : uBf (wMk μ x) = uBf μ := rfl
theorem uBf_wSt (μ : MU) (x : Int) : uBf (wSt μ x) = uBf μ := rfl
theorem wBf_wBf (μ : MU) (x x2 : Int → Int) : wBf (wBf μ x) x2 = wBf μ x2 := rfl
theorem wBf_u (μ : MU) : wBf μ (uBf μ) = μ := rfl
theorem uMk_wS (μ : MU) (x : Int → Int) : uMk (wS μ x) = uMk μ := rfl
theorem uMk_wSp (μ : MU) (x : Int → Int) : uMk (wSp μ x) = uMk μ := rfl
theorem uMk_wPa (μ : MU) (x : Int → Int) : uMk (wPa μ x) = uMk μ := rfl
theorem uMk_wSv (μ : MU) (x : Int) : uMk (wSv μ x) = uMk μ := rfl
theorem uMk_wSh (μ : MU) (x : Int → Int) : uMk (wSh μ x) = uMk μ := rfl
theorem uMk_wIs (μ : MU) (x : Int) : uMk (wIs μ x) = uMk μ := rfl
theorem uMk_wTx (μ : MU) (x : Int → Int) : uMk (wTx μ x) = uMk μ := rfl
theorem uMk_wLn (μ : MU) (x : Int) : uMk (wLn μ x) = uMk μ := rfl
theorem uMk_wCl (μ : MU) (x : Int → Int) : uMk (wCl μ x) = uMk μ := rfl
theorem uMk_wBf (μ : MU) (x : Int → Int) : uMk (wBf μ x) = uMk μ := rfl
theorem uMk_wMk (μ : MU) (x : Int → Int) : uMk (wMk μ x) = x := rfl
theorem uMk_wSt (μ : MU) (x : Int) : uMk (wSt μ x) = uMk μ := rfl
theorem wMk_wMk (μ : MU) (x x2 : Int → Int) : wMk (wMk μ x) x2 = wMk μ x2 := rfl
theorem wMk_u (μ : MU) : wMk μ (uMk μ) = μ := rfl
theorem uSt_wS (μ : MU) (x : Int → Int) : uSt (wS μ x) = uSt μ := rfl
theorem uSt_wSp (μ : MU) (x : Int → Int) : uSt (wSp μ x) = uSt μ := rfl
theorem uSt_wPa (μ : MU) (x : Int → Int) : uSt (wPa μ x) = uSt μ := rfl
theorem uSt_wSv (μ : MU) (x : Int) : uSt (wSv μ x) = uSt μ := rfl
theorem uSt_wSh (μ : MU) (x : Int → Int) : uSt (wSh μ x) = uSt μ := rfl
theorem uSt_wIs (μ : MU) (x : Int) : uSt (wIs μ x) = uSt μ := rfl
theorem uSt_wTx (μ : MU) (x : Int → Int) : uSt (wTx μ x) = uSt μ := rfl
theorem uSt_wLn (μ : MU) (x : Int) : uSt (wLn μ x) = uSt μ := rfl
theorem uSt_wCl (μ : MU) (x : Int → Int) : uSt (wCl μ x) = uSt μ := rfl
theorem uSt_wBf (μ : MU) (x : Int → Int) : uSt (wBf μ x) = uSt μ := rfl
theorem uSt_wMk (μ : MU) (x : Int → Int) : uSt (wMk μ x) = uSt μ := rfl
theorem uSt_wSt (μ : MU) (x : Int) : uSt (wSt μ x) = x := rfl
theorem wSt_wSt (μ : MU) (x x2 : Int) : wSt (wSt μ x) x2 = wSt μ x2 := rfl
theorem wSt_u (μ : MU) : wSt μ (uSt μ) = μ := rfl
def mobj (o : Nat) (μ : MU) : List AV := [.inr (some (o + 1)), .inr (some (o + 2)), .inr (some (o + 3)), .inl (uSv μ), .inr (some (o + 4)), .inl (uIs μ), .inr (some (o + 5)), .inl (uLn μ), .inr (some (o + 6)), .inr (some (o + 7)), .inr (some (o + 8)), .inl (uSt μ)]
def MM (m : Mem) (o : Nat) (μ : MU) : Mem := fun a => if a = o then obj 6 (mobj o μ) else if a = o + 1 then iar 1870 (uS μ) else if a = o + 2 then iar 1870 (uSp μ) else if a = o + 3 then iar 7480 (uPa μ) else if a = o + 4 then iar 1870 (uSh μ) else if a = o + 5 then car 60 (uTx μ) else if a = o + 6 then iar 12 (uCl μ) else if a = o + 7 then iar 12 (uBf μ) else if a = o + 8 then iar 17 (uMk μ) else m a
theorem MM_o {m : Mem} {o : Nat} {μ : MU} : MM m o μ o = obj 6 (mobj o μ) := if_pos rfl
theorem MM_S {m : Mem} {o : Nat} {μ : MU} : MM m o μ (o + 1) = iar 1870 (uS μ) := by simp [MM]
theorem MM_Sp {m : Mem} {o : Nat} {μ : MU} : MM m o μ (o + 2) = iar 1870 (uSp μ) := by simp [MM]
theorem MM_Pa {m : Mem} {o : Nat} {μ : MU} : MM m o μ (o + 3) = iar 7480 (uPa μ) := by simp [MM]
theorem MM_Sh {m : Mem} {o : Nat} {μ : MU} : MM m o μ (o + 4) = iar 1870 (uSh μ) := by simp [MM]
theorem MM_Tx {m : Mem} {o : Nat} {μ : MU} : MM m o μ (o + 5) = car 60 (uTx μ) := by simp [MM]
theorem MM_Cl {m : Mem} {o : Nat} {μ : MU} : MM m o μ (o + 6) = iar 12 (uCl μ) := by simp [MM]
theorem MM_Bf {m : Mem} {o : Nat} {μ : MU} : MM m o μ (o + 7) = iar 12 (uBf μ) := by simp [MM]
theorem MM_Mk {m : Mem} {o : Nat} {μ : MU} : MM m o μ (o + 8) = iar 17 (uMk μ) := by simp [MM]
theorem MM_n {m : Mem} {o a : Nat} {μ : MU} (h : a < o ∨ o + 9 ≤ a) : MM m o μ a = m a := by
  unfold MM
  rw [if_neg (by omega), if_neg (by omega), if_neg (by omega), if_neg (by omega), if_neg (by omega), if_neg (by omega), if_neg (by omega), if_neg (by omega), if_neg (by omega)]
theorem MM_ext {m m2 : Mem} {o : Nat} {μ : MU} (h0 : m2 o = obj 6 (mobj o μ)) (h1 : m2 (o + 1) = iar 1870 (uS μ)) (h2 : m2 (o + 2) = iar 1870 (uSp μ)) (h3 : m2 (o + 3) = iar 7480 (uPa μ)) (h4 : m2 (o + 4) = iar 1870 (uSh μ)) (h5 : m2 (o + 5) = car 60 (uTx μ)) (h6 : m2 (o + 6) = iar 12 (uCl μ)) (h7 : m2 (o + 7) = iar 12 (uBf μ)) (h8 : m2 (o + 8) = iar 17 (uMk μ)) (hn : ∀ a, a < o ∨ o + 9 ≤ a → m2 a = m a) : m2 = MM m o μ := by
  funext a
  by_cases h : a < o ∨ o + 9 ≤ a
  · rw [hn a h, MM_n h]
  · obtain ⟨d, hd⟩ : ∃ d, a = o + d := ⟨a - o, by omega⟩
    subst hd
    have h9 : d < 9 := by omega
    match d, h9 with
    | 0, _ => rw [Nat.add_zero, h0, MM_o]
    | 1, _ => rw [h1, MM_S]
    | 2, _ => rw [h2, MM_Sp]
    | 3, _ => rw [h3, MM_Pa]
    | 4, _ => rw [h4, MM_Sh]
    | 5, _ => rw [h5, MM_Tx]
    | 6, _ => rw [h6, MM_Cl]
    | 7, _ => rw [h7, MM_Bf]
    | 8, _ => rw [h8, MM_Mk]
theorem MM_wS {m : Mem} {o : Nat} {μ : MU} {x : Int → Int} : upM (MM m o μ) (o + 1) (iar 1870 x) = MM m o (wS μ x) := by
  refine MM_ext (by rw [upM_n (by omega), MM_o]; rfl) (by rw [upM_s]; rfl) (by rw [upM_n (by omega), MM_Sp]; rfl) (by rw [upM_n (by omega), MM_Pa]; rfl) (by rw [upM_n (by omega), MM_Sh]; rfl) (by rw [upM_n (by omega), MM_Tx]; rfl) (by rw [upM_n (by omega), MM_Cl]; rfl) (by rw [upM_n (by omega), MM_Bf]; rfl) (by rw [upM_n (by omega), MM_Mk]; rfl) (fun a ha => by rw [upM_n (by omega), MM_n ha])
theorem MM_wSp {m : Mem} {o : Nat} {μ : MU} {x : Int → Int} : upM (MM m o μ) (o + 2) (iar 1870 x) = MM m o (wSp μ x) := by
  refine MM_ext (by rw [upM_n (by omega), MM_o]; rfl) (by rw [upM_n (by omega), MM_S]; rfl) (by rw [upM_s]; rfl) (by rw [upM_n (by omega), MM_Pa]; rfl) (by rw [upM_n (by omega), MM_Sh]; rfl) (by rw [upM_n (by omega), MM_Tx]; rfl) (by rw [upM_n (by omega), MM_Cl]; rfl) (by rw [upM_n (by omega), MM_Bf]; rfl) (by rw [upM_n (by omega), MM_Mk]; rfl) (fun a ha => by rw [upM_n (by omega), MM_n ha])
theorem MM_wPa {m : Mem} {o : Nat} {μ : MU} {x : Int → Int} : upM (MM m o μ) (o + 3) (iar 7480 x) = MM m o (wPa μ x) := by
  refine MM_ext (by rw [upM_n (by omega), MM_o]; rfl) (by rw [upM_n (by omega), MM_S]; rfl) (by rw [upM_n (by omega), MM_Sp]; rfl) (by rw [upM_s]; rfl) (by rw [upM_n (by omega), MM_Sh]; rfl) (by rw [upM_n (by omega), MM_Tx]; rfl) (by rw [upM_n (by omega), MM_Cl]; rfl) (by rw [upM_n (by omega), MM_Bf]; rfl) (by rw [upM_n (by omega), MM_Mk]; rfl) (fun a ha => by rw [upM_n (by omega), MM_n ha])
theorem MM_wSh {m : Mem} {o : Nat} {μ : MU} {x : Int → Int} : upM (MM m o μ) (o + 4) (iar 1870 x) = MM m o (wSh μ x) := by
  refine MM_ext (by rw [upM_n (by omega), MM_o]; rfl) (by rw [upM_n (by omega), MM_S]; rfl) (by rw [upM_n (by omega), MM_Sp]; rfl) (by rw [upM_n (by omega), MM_Pa]; rfl) (by rw [upM_s]; rfl) (by rw [upM_n (by omega), MM_Tx]; rfl) (by rw [upM_n (by omega), MM_Cl]; rfl) (by rw [upM_n (by omega), MM_Bf]; rfl) (by rw [upM_n (by omega), MM_Mk]; rfl) (fun a ha => by rw [upM_n (by omega), MM_n ha])
theorem MM_wTx {m : Mem} {o : Nat} {μ : MU} {x : Int → Int} : upM (MM m o μ) (o + 5) (car 60 x) = MM m o (wTx μ x) := by
  refine MM_ext (by rw [upM_n (by omega), MM_o]; rfl) (by rw [upM_n (by omega), MM_S]; rfl) (by rw [upM_n (by omega), MM_Sp]; rfl) (by rw [upM_n (by omega), MM_Pa]; rfl) (by rw [upM_n (by omega), MM_Sh]; rfl) (by rw [upM_s]; rfl) (by rw [upM_n (by omega), MM_Cl]; rfl) (by rw [upM_n (by omega), MM_Bf]; rfl) (by rw [upM_n (by omega), MM_Mk]; rfl) (fun a ha => by rw [upM_n (by omega), MM_n ha])
theorem MM_wCl {m : Mem} {o : Nat} {μ : MU} {x : Int → Int} : upM (MM m o μ) (o + 6) (iar 12 x) = MM m o (wCl μ x) := by
  refine MM_ext (by rw [upM_n (by omega), MM_o]; rfl) (by rw [upM_n (by omega), MM_S]; rfl) (by rw [upM_n (by omega), MM_Sp]; rfl) (by rw [upM_n (by omega), MM_Pa]; rfl) (by rw [upM_n (by omega), MM_Sh]; rfl) (by rw [upM_n (by omega), MM_Tx]; rfl) (by rw [upM_s]; rfl) (by rw [upM_n (by omega), MM_Bf]; rfl) (by rw [upM_n (by omega), MM_Mk]; rfl) (fun a ha => by rw [upM_n (by omega), MM_n ha])
theorem MM_wBf {m : Mem} {o : Nat} {μ : MU} {x : Int → Int} : upM (MM m o μ) (o + 7) (iar 12 x) = MM m o (wBf μ x) := by
  refine MM_ext (by rw [upM_n (by omega), MM_o]; rfl) (by rw [upM_n (by omega), MM_S]; rfl) (by rw [upM_n (by omega), MM_Sp]; rfl) (by rw [upM_n (by omega), MM_Pa]; rfl) (by rw [upM_n (by omega), MM_Sh]; rfl) (by rw [upM_n (by omega), MM_Tx]; rfl) (by rw [upM_n (by omega), MM_Cl]; rfl) (by rw [upM_s]; rfl) (by rw [upM_n (by omega), MM_Mk]; rfl) (fun a ha => by rw [upM_n (by omega), MM_n ha])
theorem MM_wMk {m : Mem} {o : Nat} {μ : MU} {x : Int → Int} : upM (MM m o μ) (o + 8) (iar 17 x) = MM m o (wMk μ x) := by
  refine MM_ext (by rw [upM_n (by omega), MM_o]; rfl) (by rw [upM_n (by omega), MM_S]; rfl) (by rw [upM_n (by omega), MM_Sp]; rfl) (by rw [upM_n (by omega), MM_Pa]; rfl) (by rw [upM_n (by omega), MM_Sh]; rfl) (by rw [upM_n (by omega), MM_Tx]; rfl) (by rw [upM_n (by omega), MM_Cl]; rfl) (by rw [upM_n (by omega), MM_Bf]; rfl) (by rw [upM_s]; rfl) (fun a ha => by rw [upM_n (by omega), MM_n ha])
theorem MM_wSv {m : Mem} {o : Nat} {μ : MU} {z : Int} : upM (MM m o μ) o (obj 6 ((mobj o μ).set 3 (.inl z))) = MM m o (wSv μ z) := by
  refine MM_ext (by rw [upM_s]; rfl) (by rw [upM_n (by omega), MM_S]; rfl) (by rw [upM_n (by omega), MM_Sp]; rfl) (by rw [upM_n (by omega), MM_Pa]; rfl) (by rw [upM_n (by omega), MM_Sh]; rfl) (by rw [upM_n (by omega), MM_Tx]; rfl) (by rw [upM_n (by omega), MM_Cl]; rfl) (by rw [upM_n (by omega), MM_Bf]; rfl) (by rw [upM_n (by omega), MM_Mk]; rfl) (fun a ha => by rw [upM_n (by omega), MM_n ha])
theorem MM_wIs {m : Mem} {o : Nat} {μ : MU} {z : Int} : upM (MM m o μ) o (obj 6 ((mobj o μ).set 5 (.inl z))) = MM m o (wIs μ z) := by
  refine MM_ext (by rw [upM_s]; rfl) (by rw [upM_n (by omega), MM_S]; rfl) (by rw [upM_n (by omega), MM_Sp]; rfl) (by rw [upM_n (by omega), MM_Pa]; rfl) (by rw [upM_n (by omega), MM_Sh]; rfl) (by rw [upM_n (by omega), MM_Tx]; rfl) (by rw [upM_n (by omega), MM_Cl]; rfl) (by rw [upM_n (by omega), MM_Bf]; rfl) (by rw [upM_n (by omega), MM_Mk]; rfl) (fun a ha => by rw [upM_n (by omega), MM_n ha])
theorem MM_wLn {m : Mem} {o : Nat} {μ : MU} {z : Int} : upM (MM m o μ) o (obj 6 ((mobj o μ).set 7 (.inl z))) = MM m o (wLn μ z) := by
  refine MM_ext (by rw [upM_s]; rfl) (by rw [upM_n (by omega), MM_S]; rfl) (by rw [upM_n (by omega), MM_Sp]; rfl) (by rw [upM_n (by omega), MM_Pa]; rfl) (by rw [upM_n (by omega), MM_Sh]; rfl) (by rw [upM_n (by omega), MM_Tx]; rfl) (by rw [upM_n (by omega), MM_Cl]; rfl) (by rw [upM_n (by omega), MM_Bf]; rfl) (by rw [upM_n (by omega), MM_Mk]; rfl) (fun a ha => by rw [upM_n (by omega), MM_n ha])
theorem MM_wSt {m : Mem} {o : Nat} {μ : MU} {z : Int} : upM (MM m o μ) o (obj 6 ((mobj o μ).set 11 (.inl z))) = MM m o (wSt μ z) := by
  refine MM_ext (by rw [upM_s]; rfl) (by rw [upM_n (by omega), MM_S]; rfl) (by rw [upM_n (by omega), MM_Sp]; rfl) (by rw [upM_n (by omega), MM_Pa]; rfl) (by rw [upM_n (by omega), MM_Sh]; rfl) (by rw [upM_n (by omega), MM_Tx]; rfl) (by rw [upM_n (by omega), MM_Cl]; rfl) (by rw [upM_n (by omega), MM_Bf]; rfl) (by rw [upM_n (by omega), MM_Mk]; rfl) (fun a ha => by rw [upM_n (by omega), MM_n ha])
section
variable {G : GX} {y : MK} {R : Room} {Qf : QF} {pc pc' : Nat} {L : List (Option AV)} {st : List AV} {sz : Nat} {m : Mem} {k n o : Nat} {μ : MU}
theorem M.gf {idx j : Nat} {fin : Bool} {ty : FieldType} {v : AV} (h : At y pc (.getfield idx) 3 pc') (hf : FL y.1.cls idx 6 j fin ty) (hv : (mobj o μ)[j]? = some v) (kk : V G y R Qf pc' L (v :: st) sz (MM m o μ) k n) : V G y R Qf pc L (.inr (some o) :: st) sz (MM m o μ) k n := V.getf h hf MM_o hv kk
theorem M.ldS {i : Int} (h : At y pc .iaload 1 pc') (h0 : 0 ≤ i ∧ i < 1870) (kk : V G y R Qf pc' L (.inl (uS μ i) :: st) sz (MM m o μ) k n) : V G y R Qf pc L (.inl i :: .inr (some (o + 1)) :: st) sz (MM m o μ) k n := V.iald h MM_S h0.1 h0.2 kk
theorem M.stS {i x : Int} (h : At y pc .iastore 1 pc') (h0 : 0 ≤ i ∧ i < 1870) (kk : V G y R Qf pc' L st sz (MM m o (wS μ (upI (uS μ) i x))) k n) : V G y R Qf pc L (.inl x :: .inl i :: .inr (some (o + 1)) :: st) sz (MM m o μ) k n := V.iast h MM_S h0.1 h0.2 (V.mem MM_wS.symm kk)
theorem M.knS (kk : (∀ i : Int, 0 ≤ i → i < 1870 → inR (uS μ i)) → V G y R Qf pc L st sz (MM m o μ) k n) : V G y R Qf pc L st sz (MM m o μ) k n := V.knowI MM_S kk
theorem M.ldSp {i : Int} (h : At y pc .iaload 1 pc') (h0 : 0 ≤ i ∧ i < 1870) (kk : V G y R Qf pc' L (.inl (uSp μ i) :: st) sz (MM m o μ) k n) : V G y R Qf pc L (.inl i :: .inr (some (o + 2)) :: st) sz (MM m o μ) k n := V.iald h MM_Sp h0.1 h0.2 kk
theorem M.stSp {i x : Int} (h : At y pc .iastore 1 pc') (h0 : 0 ≤ i ∧ i < 1870) (kk : V G y R Qf pc' L st sz (MM m o (wSp μ (upI (uSp μ) i x))) k n) : V G y R Qf pc L (.inl x :: .inl i :: .inr (some (o + 2)) :: st) sz (MM m o μ) k n := V.iast h MM_Sp h0.1 h0.2 (V.mem MM_wSp.symm kk)
theorem M.knSp (kk : (∀ i : Int, 0 ≤ i → i < 1870 → inR (uSp μ i)) → V G y R Qf pc L st sz (MM m o μ) k n) : V G y R Qf pc L st sz (MM m o μ) k n := V.knowI MM_Sp kk
theorem M.ldPa {i : Int} (h : At y pc .iaload 1 pc') (h0 : 0 ≤ i ∧ i < 7480) (kk : V G y R Qf pc' L (.inl (uPa μ i) :: st) sz (MM m o μ) k n) : V G y R Qf pc L (.inl i :: .inr (some (o + 3)) :: st) sz (MM m o μ) k n := V.iald h MM_Pa h0.1 h0.2 kk
theorem M.stPa {i x : Int} (h : At y pc .iastore 1 pc') (h0 : 0 ≤ i ∧ i < 7480) (kk : V G y R Qf pc' L st sz (MM m o (wPa μ (upI (uPa μ) i x))) k n) : V G y R Qf pc L (.inl x :: .inl i :: .inr (some (o + 3)) :: st) sz (MM m o μ) k n := V.iast h MM_Pa h0.1 h0.2 (V.mem MM_wPa.symm kk)
theorem M.knPa (kk : (∀ i : Int, 0 ≤ i → i < 7480 → inR (uPa μ i)) → V G y R Qf pc L st sz (MM m o μ) k n) : V G y R Qf pc L st sz (MM m o μ) k n := V.knowI MM_Pa kk
theorem M.pfSv {idx : Nat} {z : Int} (h : At y pc (.putfield idx) 3 pc') (hf : FL y.1.cls idx 6 3 false .int) (kk : V G y R Qf pc' L st sz (MM m o (wSv μ z)) k n) : V G y R Qf pc L (.inl z :: .inr (some o) :: st) sz (MM m o μ) k n := V.putf h hf MM_o (Nat.le_of_ble_eq_true rfl) rfl rfl (V.mem MM_wSv.symm kk)
theorem M.ldSh {i : Int} (h : At y pc .iaload 1 pc') (h0 : 0 ≤ i ∧ i < 1870) (kk : V G y R Qf pc' L (.inl (uSh μ i) :: st) sz (MM m o μ) k n) : V G y R Qf pc L (.inl i :: .inr (some (o + 4)) :: st) sz (MM m o μ) k n := V.iald h MM_Sh h0.1 h0.2 kk
theorem M.stSh {i x : Int} (h : At y pc .iastore 1 pc') (h0 : 0 ≤ i ∧ i < 1870) (kk : V G y R Qf pc' L st sz (MM m o (wSh μ (upI (uSh μ) i x))) k n) : V G y R Qf pc L (.inl x :: .inl i :: .inr (some (o + 4)) :: st) sz (MM m o μ) k n := V.iast h MM_Sh h0.1 h0.2 (V.mem MM_wSh.symm kk)
theorem M.knSh (kk : (∀ i : Int, 0 ≤ i → i < 1870 → inR (uSh μ i)) → V G y R Qf pc L st sz (MM m o μ) k n) : V G y R Qf pc L st sz (MM m o μ) k n := V.knowI MM_Sh kk
theorem M.pfIs {idx : Nat} {z : Int} (h : At y pc (.putfield idx) 3 pc') (hf : FL y.1.cls idx 6 5 false .boolean) (hz : z = 0 ∨ z = 1) (kk : V G y R Qf pc' L st sz (MM m o (wIs μ z)) k n) : V G y R Qf pc L (.inl z :: .inr (some o) :: st) sz (MM m o μ) k n := V.putf h hf MM_o (Nat.le_of_ble_eq_true rfl) (by rcases hz with rfl | rfl <;> rfl) (by rcases hz with rfl | rfl <;> rfl) (V.mem MM_wIs.symm kk)
theorem M.ldTx {i : Int} (h : At y pc .caload 1 pc') (h0 : 0 ≤ i ∧ i < 60) (kk : V G y R Qf pc' L (.inl (uTx μ i) :: st) sz (MM m o μ) k n) : V G y R Qf pc L (.inl i :: .inr (some (o + 5)) :: st) sz (MM m o μ) k n := V.cald h MM_Tx h0.1 h0.2 kk
theorem M.stTx {i x : Int} (h : At y pc .castore 1 pc') (h0 : 0 ≤ i ∧ i < 60) (hx : 0 ≤ x ∧ x < 65536) (kk : V G y R Qf pc' L st sz (MM m o (wTx μ (upI (uTx μ) i x))) k n) : V G y R Qf pc L (.inl x :: .inl i :: .inr (some (o + 5)) :: st) sz (MM m o μ) k n := V.cast h MM_Tx h0.1 h0.2 hx.1 hx.2 (V.mem MM_wTx.symm kk)
theorem M.pfLn {idx : Nat} {z : Int} (h : At y pc (.putfield idx) 3 pc') (hf : FL y.1.cls idx 6 7 false .int) (kk : V G y R Qf pc' L st sz (MM m o (wLn μ z)) k n) : V G y R Qf pc L (.inl z :: .inr (some o) :: st) sz (MM m o μ) k n := V.putf h hf MM_o (Nat.le_of_ble_eq_true rfl) rfl rfl (V.mem MM_wLn.symm kk)
theorem M.ldCl {i : Int} (h : At y pc .iaload 1 pc') (h0 : 0 ≤ i ∧ i < 12) (kk : V G y R Qf pc' L (.inl (uCl μ i) :: st) sz (MM m o μ) k n) : V G y R Qf pc L (.inl i :: .inr (some (o + 6)) :: st) sz (MM m o μ) k n := V.iald h MM_Cl h0.1 h0.2 kk
theorem M.stCl {i x : Int} (h : At y pc .iastore 1 pc') (h0 : 0 ≤ i ∧ i < 12) (kk : V G y R Qf pc' L st sz (MM m o (wCl μ (upI (uCl μ) i x))) k n) : V G y R Qf pc L (.inl x :: .inl i :: .inr (some (o + 6)) :: st) sz (MM m o μ) k n := V.iast h MM_Cl h0.1 h0.2 (V.mem MM_wCl.symm kk)
theorem M.knCl (kk : (∀ i : Int, 0 ≤ i → i < 12 → inR (uCl μ i)) → V G y R Qf pc L st sz (MM m o μ) k n) : V G y R Qf pc L st sz (MM m o μ) k n := V.knowI MM_Cl kk
theorem M.ldBf {i : Int} (h : At y pc .iaload 1 pc') (h0 : 0 ≤ i ∧ i < 12) (kk : V G y R Qf pc' L (.inl (uBf μ i) :: st) sz (MM m o μ) k n) : V G y R Qf pc L (.inl i :: .inr (some (o + 7)) :: st) sz (MM m o μ) k n := V.iald h MM_Bf h0.1 h0.2 kk
theorem M.stBf {i x : Int} (h : At y pc .iastore 1 pc') (h0 : 0 ≤ i ∧ i < 12) (kk : V G y R Qf pc' L st sz (MM m o (wBf μ (upI (uBf μ) i x))) k n) : V G y R Qf pc L (.inl x :: .inl i :: .inr (some (o + 7)) :: st) sz (MM m o μ) k n := V.iast h MM_Bf h0.1 h0.2 (V.mem MM_wBf.symm kk)
theorem M.knBf (kk : (∀ i : Int, 0 ≤ i → i < 12 → inR (uBf μ i)) → V G y R Qf pc L st sz (MM m o μ) k n) : V G y R Qf pc L st sz (MM m o μ) k n := V.knowI MM_Bf kk
theorem M.ldMk {i : Int} (h : At y pc .iaload 1 pc') (h0 : 0 ≤ i ∧ i < 17) (kk : V G y R Qf pc' L (.inl (uMk μ i) :: st) sz (MM m o μ) k n) : V G y R Qf pc L (.inl i :: .inr (some (o + 8)) :: st) sz (MM m o μ) k n := V.iald h MM_Mk h0.1 h0.2 kk
theorem M.stMk {i x : Int} (h : At y pc .iastore 1 pc') (h0 : 0 ≤ i ∧ i < 17) (kk : V G y R Qf pc' L st sz (MM m o (wMk μ (upI (uMk μ) i x))) k n) : V G y R Qf pc L (.inl x :: .inl i :: .inr (some (o + 8)) :: st) sz (MM m o μ) k n := V.iast h MM_Mk h0.1 h0.2 (V.mem MM_wMk.symm kk)
theorem M.knMk (kk : (∀ i : Int, 0 ≤ i → i < 17 → inR (uMk μ i)) → V G y R Qf pc L st sz (MM m o μ) k n) : V G y R Qf pc L st sz (MM m o μ) k n := V.knowI MM_Mk kk
theorem M.pfSt {idx : Nat} {z : Int} (h : At y pc (.putfield idx) 3 pc') (hf : FL y.1.cls idx 6 11 false .int) (kk : V G y R Qf pc' L st sz (MM m o (wSt μ z)) k n) : V G y R Qf pc L (.inl z :: .inr (some o) :: st) sz (MM m o μ) k n := V.putf h hf MM_o (Nat.le_of_ble_eq_true rfl) rfl rfl (V.mem MM_wSt.symm kk)
end
