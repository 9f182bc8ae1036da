-- the class beside the reference
theorem okPost {G : GX} {y : MK} {d : Nat} {args : List AV} {sz : Nat} {m : Mem} {mc ms : Nat} {P Q : PO} (ok : Ok G y d args sz m mc ms P) (hp : ∀ r z m', P r z m' → Q r z m') : Ok G y d args sz m mc ms Q := by
  intro p e ha hc hk s mid av below hf happ hP hT
  obtain ⟨t, o, h1, h2, h3, ⟨r, z, m', e1, e2, e3⟩, h5⟩ := ok p e ha hc hk s mid av below hf happ hP hT
  exact ⟨t, o, h1, h2, h3, ⟨r, z, m', e1, hp r z m' e2, e3⟩, h5⟩
abbrev AG (f g : Int → Int) : Prop := ∀ j, 0 ≤ j → j < 1870 → f j = g j
def slice (pa : Int → Int) (i : Int) : Int → Int := fun j => pa (1870 * i + j)
theorem blkCongr {m : Mem} {A : Nat} {s t : Int → Int} {g : Int → Option Nat} (h : Blk m A s g) (e : AG t s) : Blk m A t g := by
  have e1 := h.eq
  rw [← BM_congr (t := t) (fun j j0 j1 => e j j0 (by omega))] at e1
  rw [e1]
  exact Blk.of
theorem entsCongr {Z t0 : Nat} {m : Mem} {s t : Int → Int} {g : Int → Option Nat} (h : EntsR Z t0 m s g) (hN : Num s) (e : AG t s) : EntsR Z t0 m t g := fun i i0 i1 => by
  obtain ⟨n0, n1, n2, n3, n4⟩ := hN
  rw [e 3 (by decide) (by decide), e 2 (by decide) (by decide)] at i1
  obtain ⟨x, h1, h2⟩ := h i i0 i1
  exact ⟨x, h1, h2.congr (fun j j0 j1 => e _ (by omega) (by omega))⟩
theorem useCongr {Z t0 : Nat} {m : Mem} {C : Int} {s t : Int → Int} {g : Int → Option Nat} (u : Use Z t0 m C (s, g)) (e : AG t s) : Use Z t0 m C (t, g) := ⟨entsCongr u.1 u.2.N e, u.2.congr e⟩
theorem pqCongr {m mb : Mem} {X Z t0 : Nat} {C : Int} {s t : Int → Int} {g : Int → Option Nat} {c : BS} {h : Int → Nat × BS} {sv ish ln : Int} {tx : Int → Int} (p : PQ m X Z t0 mb C (s, g) h c sv ish tx ln) (e : AG t s) : PQ m X Z t0 mb C (t, g) h c sv ish tx ln := by
  obtain ⟨⟨p1, p2, p3, p4, p5, p6, p7⟩, u1, u2, u3⟩ := p
  exact ⟨⟨p1, p2, p3, p4, ⟨blkCongr p5.1 e, p5.2⟩, p6, p7⟩, useCongr u1 e, u2, u3⟩
-- a memory that is another's in all but the model's cells
theorem pqModel {m m1 mb : Mem} {X t0 : Nat} {C : Int} {b c : BS} {h : Int → Nat × BS} {sv ish ln : Int} {tx : Int → Int} (p : PQ m X (X + 166) t0 mb C b h c sv ish tx ln) (x : ∀ a, (a < X + 157 ∨ X + 166 ≤ a) → m1 a = m a) (hu : ∀ a, X + 157 ≤ a → a < X + 166 → m1 a ≠ unk) : PQ m1 X (X + 166) t0 m1 C b h c sv ish tx ln := by
  obtain ⟨⟨p1, p2, p3, ⟨h0, p4⟩, p5, p6, p7, p8, p9, p10, p11, p12, p13, -⟩, u1, u2, u3⟩ := p
  have ent : ∀ (s : Int → Int) (g : Int → Option Nat), EntsR (X + 166) t0 m s g → EntsR (X + 166) t0 m1 s g := fun s g hE i i0 i1 => by
    obtain ⟨e, q1, q2, am, va, nv, vf, q3, q4, q5, q6⟩ := hE i i0 i1
    exact ⟨e, q1, q2, am, va, nv, vf, (x e (by omega)).trans q3, q4, (x va (by omega)).trans q5, q6⟩
  have blk : ∀ (A : Nat) (d : BS), A + 22 ≤ X + 157 → BQ (X + 166) m A d → BQ (X + 166) m1 A d := fun A d hA q => ⟨q.1.keep (fun a a0 a1 => x a (by omega)), fun i i0 i1 e he => by
    obtain ⟨q1, fs, q2⟩ := q.2 i i0 i1 e he
    exact ⟨q1, fs, (x e (by omega)).trans q2⟩⟩
  have use : ∀ (d : BS), Use (X + 166) t0 m C d → Use (X + 166) t0 m1 C d := fun d u => ⟨ent _ _ u.1, u.2⟩
  exact ⟨⟨(x _ (by omega)).trans p1, (x _ (by omega)).trans p2, (x _ (by omega)).trans p3, ⟨h0, (x _ (by omega)).trans p4⟩, blk _ _ (by omega) p5, blk _ _ (by omega) p6, fun i i0 i1 => blk _ _ (by have := (p8 i i0 i1).1; omega) (p7 i i0 i1), p8, p9, p10, p11, p12, p13, fun a a0 a1 => ⟨rfl, hu a a0 a1⟩⟩, use _ u1, fun q => use _ (u2 q), fun i i0 i1 => use _ (u3 i i0 i1)⟩
-- the class's cells hold what is told
def KP (M : Mem) (X t0 : Nat) (mb : Mem) (C : Int) (s pa : Int → Int) (sv : Int) (sh : Int → Int) (ish : Int) (tx : Int → Int) (ln : Int) : Prop := ∃ (g : Int → Option Nat) (h : Int → Nat × BS) (c : BS), PQ M X (X + 166) t0 mb C (s, g) h c sv ish tx ln ∧ (∀ i, 0 ≤ i → i < sv → AG (h i).2.1 (slice pa i)) ∧ (ish ≠ 0 → AG c.1 sh)
theorem KP.congr {M mb : Mem} {X t0 : Nat} {C : Int} {s t pa sh : Int → Int} {sv ish ln : Int} {tx : Int → Int} (k : KP M X t0 mb C s pa sv sh ish tx ln) (e : AG t s) : KP M X t0 mb C t pa sv sh ish tx ln := by
  obtain ⟨g, h, c, p, q1, q2⟩ := k
  exact ⟨g, h, c, pqCongr p e, q1, q2⟩
def CP (M : Mem) (X t0 : Nat) (C : Int) : Prop := ∃ (s pa : Int → Int) (sv : Int) (sh : Int → Int) (ish : Int) (tx : Int → Int) (ln : Int) (sp cl bf mk : Int → Int) (st : Int) (M0 : Mem), KP M X t0 M C s pa sv sh ish tx ln ∧ M = MM M0 (X + 157) s sp pa sv sh ish tx ln cl bf mk st
theorem mmKeep {m m0 : Mem} {o : Nat} {s sp pa sh tx cl bf mk : Int → Int} {sv ish ln st : Int} (x : ∀ a, o ≤ a → a < o + 9 → m a = MM m0 o s sp pa sv sh ish tx ln cl bf mk st a) : m = MM m o s sp pa sv sh ish tx ln cl bf mk st := by
  funext a
  by_cases q : o ≤ a ∧ a < o + 9
  · rw [x a q.1 q.2]
    unfold MM
    repeat (split; rfl)
    omega
  · rw [MM_n (by omega)]
theorem mmNu {m0 : Mem} {o : Nat} {s sp pa sh tx cl bf mk : Int → Int} {sv ish ln st : Int} {a : Nat} (h : o ≤ a ∧ a < o + 9) : MM m0 o s sp pa sv sh ish tx ln cl bf mk st a ≠ unk := by
  unfold MM
  repeat (split; (intro q; cases q))
  omega

