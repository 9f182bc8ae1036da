-- the reference's methods: contracts (part two): reading the log
theorem foldI_indB {α : Type} {f : α → Int → α} {z : α} {a e : Int} (P : Int → α → Prop) (h0 : P a z) (hs : ∀ k x, a ≤ k → k < e → P k x → P (k + 1) (f x k)) : ∀ b, a ≤ b → b ≤ e → P b (foldI f z a b) := by
  intro b hb
  obtain ⟨n, hn⟩ : ∃ n : Nat, b = a + n := ⟨(b - a).toNat, by omega⟩
  subst hn
  clear hb
  induction n with
  | zero => intro _; rw [foldI_0 (by omega)]; simpa using h0
  | succ n ih =>
    intro hb
    have e : a + ((n + 1 : Nat) : Int) = (a + n) + 1 := by omega
    rw [e, foldI_s (by omega)]
    exact hs _ _ (by omega) (by omega) (ih (by omega))
def Num (s : Int → Int) : Prop := 0 ≤ s 2 ∧ s 2 ≤ s 4 ∧ s 4 ≤ s 3 ∧ s 3 ≤ 30000 ∧ s 3 - s 2 ≤ 100
def EntS (s : Int → Int) : Prop := ∀ k, s 2 ≤ k → k < s 3 → entOK s (atE s k)
theorem Inv.N {B : Int} {s : Int → Int} (h : Inv B s) : Num s := by
  have := h.num
  unfold Num
  omega
theorem Inv.E {B : Int} {s : Int → Int} (h : Inv B s) : EntS s := fun _ h1 h2 => h.ent h1 h2
theorem EntS.p {s : Int → Int} (h : EntS s) {k : Int} (h1 : s 2 ≤ k) (h2 : k < s 3) : 0 ≤ ofE s k 0 ∧ ofE s k 0 < 6 := by
  have := (h k h1 h2).1
  show 0 ≤ s (atE s k + 0) ∧ s (atE s k + 0) < 6
  rw [Int.add_zero]
  exact this
theorem EntS.sz {s : Int → Int} (h : EntS s) {k : Int} (h1 : s 2 ≤ k) (h2 : k < s 3) : 3 ≤ sizeA s (170 + 17 * (k - s 2)) ∧ sizeA s (170 + 17 * (k - s 2)) ≤ 15 := sizeA_b (h k h1 h2)
theorem EntS.tm {s : Int → Int} (h : EntS s) {k : Int} (h1 : s 2 ≤ k) (h2 : k < s 3) : 3 ≤ timeA s (170 + 17 * (k - s 2)) ∧ timeA s (170 + 17 * (k - s 2)) ≤ 27 := timeA_b (h k h1 h2)
theorem EntS.m3 {s : Int → Int} (h : EntS s) {k : Int} (h1 : s 2 ≤ k) (h2 : k < s 3) : 1 ≤ s (170 + 17 * (k - s 2) + 3) ∧ s (170 + 17 * (k - s 2) + 3) ≤ 12 := by
  have h3 := (h k h1 h2).2.2.1
  have : s (atE s k + 3) = s (170 + 17 * (k - s 2) + 3) := rfl
  omega
theorem used_b {s : Int → Int} (h : EntS s) {k : Int} (h1 : s 2 ≤ k) (h2 : k ≤ s 3) : 0 ≤ foldI (fun sum k => sum + sizeA s (atE s k)) 0 (s 2) k ∧ foldI (fun sum k => sum + sizeA s (atE s k)) 0 (s 2) k ≤ 15 * (k - s 2) :=
  foldI_indB (fun k x => 0 ≤ x ∧ x ≤ 15 * (k - s 2)) (by omega) (fun k x g1 g2 g3 => by have := h.sz g1 g2; dsimp only [atE]; omega) k h1 h2
theorem used_b2 {s : Int → Int} (h : EntS s) (hN : Num s) : 0 ≤ used s ∧ used s ≤ 1500 := by
  obtain ⟨n0, n1, n2, n3, n4⟩ := hN
  have := used_b h (k := s 3) (by omega) (by omega)
  unfold used
  omega
theorem drp_b {s : Int → Int} {most : Int} : ∀ (f : Nat) (n left : Int), n ≤ drpF s most f n left ∧ (s 2 + n ≤ s 4 → s 2 + drpF s most f n left ≤ s 4)
  | 0, n, left => ⟨Int.le_refl _, fun h => h⟩
  | f + 1, n, left => by
    have ih := drp_b (s := s) (most := most) f (n + 1) (left - sizeA s (atE s (s 2 + n)))
    unfold drpF
    split
    · rename_i h
      exact ⟨by omega, fun _ => ih.2 (by omega)⟩
    · exact ⟨Int.le_refl _, fun h => h⟩
theorem droppable_b {s : Int → Int} {most : Int} (hN : Num s) : 0 ≤ droppable s most ∧ s 2 + droppable s most ≤ s 4 := by
  obtain ⟨n0, n1, n2, n3, n4⟩ := hN
  have h := drp_b (s := s) (most := most) ((s 4 - s 2).toNat + 1) 0 (used s)
  exact ⟨h.1, h.2 (by omega)⟩
section
variable {G : GX} {sz : Nat} {m : Mem} {o : Nat} {s sp pa sh tx cl bf mk : Int → Int} {sv ish ln st : Int}
end
