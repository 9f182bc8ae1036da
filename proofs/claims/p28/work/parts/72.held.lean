-- rows that agree in what is told of them
theorem Inv.agr {B : Int} {s t : Int → Int} (h : Inv B s) (e : Agr s t) : Inv B t := by
  have hn := h.num
  have e0 := e.1 0 (by decide) (by decide)
  have e1 := e.1 1 (by decide) (by decide)
  have e2 := e.1 2 (by decide) (by decide)
  have e3 := e.1 3 (by decide) (by decide)
  have e4 := e.1 4 (by decide) (by decide)
  have e5 := e.1 5 (by decide) (by decide)
  have e6 := e.1 6 (by decide) (by decide)
  have e7 := e.1 7 (by decide) (by decide)
  have eo : ∀ k, s 2 ≤ k → k < s 3 → ∀ j, 0 ≤ j → j < 17 → t (atE t k + j) = s (atE s k + j) := by
    intro k k0 k1 j j0 j1
    dsimp only [atE]
    rw [e2]
    exact e.2 _ (by omega) (by omega)
  refine ⟨by omega, by omega, by omega, by omega, by omega, by omega, fun i i0 i1 => ?_, fun p p0 p1 => ?_, fun k k0 k1 => ?_, ?_, by omega⟩
  · rw [e.1 i (by omega) (by omega)]; exact h.cell i0 i1
  · rw [e.1 (152 + p) (by omega) (by omega), e.1 (158 + p) (by omega) (by omega), e.1 (164 + p) (by omega) (by omega), e4, e2]; exact h.page p0 p1
  · exact (h.ent (by omega) (by omega)).congr (eo k (by omega) (by omega))
  · have hr := h.room
    rw [used_eq] at hr
    rw [used_eq, e1, e2, e3, sumI_congr (g := fun k => sizeA s (atE s k)) (fun k k0 k1 => sizeA_congr (eo k k0 k1))]
    exact hr
theorem Blk.agr {m : Mem} {A : Nat} {s t : Int → Int} {g : Int → Option Nat} (h : Blk m A s g) (e : Agr s t) : Blk m A t g := by
  have e1 := h.eq
  rw [← BM_congr (t := t) (fun j j0 j1 => e.1 j j0 j1)] at e1
  rw [e1]
  exact Blk.of
theorem Use.agr {Z t0 : Nat} {m : Mem} {C : Int} {s t : Int → Int} {g : Int → Option Nat} (u : Use Z t0 m C (s, g)) (e : Agr s t) : Use Z t0 m C (t, g) := ⟨u.1.agr e, u.2.agr e⟩
theorem PQ.agr {m mb : Mem} {X Z t0 : Nat} {C : Int} {s t : Int → Int} {g : Int → Option Nat} {c : BS} {h : Int → Nat × BS} {sv ish ln : Int} {tx : Int → Int} (p : PQ m X Z t0 mb C (s, g) h c sv ish tx ln) (e : Agr s t) : PQ m X Z t0 mb C (t, g) h c sv ish tx ln := by
  obtain ⟨⟨p1, p2, p3, p4, p5, p6, p7⟩, u1, u2, u3⟩ := p
  exact ⟨⟨p1, p2, p3, p4, ⟨p5.1.agr e, p5.2⟩, p6, p7⟩, u1.agr e, u2, u3⟩
-- what is held: the state, the states of the history, the snapshot's
def KH (m : Mem) (X Z t0 : Nat) (mb : Mem) (C : Int) (s : Int → Int) (hs : Int → Int → Int) (c : Int → Int) (sv ish : Int) (tx : Int → Int) (ln : Int) : Prop := ∃ (g : Int → Option Nat) (h : Int → Nat × BS) (cg : Int → Option Nat), PQ m X Z t0 mb C (s, g) h (c, cg) sv ish tx ln ∧ ∀ i, 0 ≤ i → i < sv → (h i).2.1 = hs i
def recH (hs : Int → Int → Int) (sv : Int) (s : Int → Int) : Int → Int → Int := fun i => if sv = 4 then (if i < 3 then hs (i + 1) else s) else (if i < sv then hs i else s)
section
variable {G : GX} {m mb : Mem} {X Z t0 : Nat} {C D : Int} {s s1 c : Int → Int} {hs : Int → Int → Int} {sv ish ln : Int} {tx : Int → Int} {sz : Nat}
theorem KH.o (k : KH m X Z t0 mb C s hs c sv ish tx ln) : ∃ fs, m X = obj 5 fs := by
  obtain ⟨g, h, cg, p, -⟩ := k
  exact ⟨_, p.1.1⟩
theorem KH.inv (k : KH m X Z t0 mb C s hs c sv ish tx ln) : Inv C s := by
  obtain ⟨g, h, cg, p, -⟩ := k
  exact p.2.1.2
theorem KH.svb (k : KH m X Z t0 mb C s hs c sv ish tx ln) : 0 ≤ sv ∧ sv ≤ 4 := by
  obtain ⟨g, h, cg, p, -⟩ := k
  exact p.sv_b
theorem KH.mono (k : KH m X Z t0 mb C s hs c sv ish tx ln) (e : C ≤ D ∧ D ≤ 20000) : KH m X Z t0 mb D s hs c sv ish tx ln := by
  obtain ⟨g, h, cg, p, q⟩ := k
  exact ⟨g, h, cg, p.mono e, q⟩
theorem KH.agr {t : Int → Int} (k : KH m X Z t0 mb C s hs c sv ish tx ln) (e : Agr s t) : KH m X Z t0 mb C t hs c sv ish tx ln := by
  obtain ⟨g, h, cg, p, q⟩ := k
  exact ⟨g, h, cg, p.agr e, q⟩
theorem recR_recH {h : Int → Nat × BS} (hv : 0 ≤ sv ∧ sv ≤ 4) (q : ∀ i, 0 ≤ i → i < sv → (h i).2.1 = hs i) {i : Int} (i0 : 0 ≤ i) (i1 : i < recV sv) : recR h sv s i = recH hs sv s i := by
  unfold recV at i1
  unfold recR recH
  by_cases h4 : sv = 4
  · rw [if_pos h4] at i1
    rw [if_pos h4, if_pos h4]
    by_cases h3 : i < 3
    · rw [if_pos h3, if_pos h3]; exact q _ (by omega) (by omega)
    · rw [if_neg h3, if_neg h3]
  · rw [if_neg h4, if_neg h4]
    by_cases h3 : i < sv
    · rw [if_pos h3, if_pos h3]; exact q _ (by omega) (by omega)
    · rw [if_neg h3, if_neg h3]
theorem KH.done {m' : Mem} {h : Int → Nat × BS} {cg : Int → Option Nat} {ret : Option AV} {z : Nat} {ans : Int} (hd : done X Z t0 mb D s1 s h (c, cg) sv ish tx ln ans sz ret z m') (hv : 0 ≤ sv ∧ sv ≤ 4) (q : ∀ i, 0 ≤ i → i < sv → (h i).2.1 = hs i) : ret = some (.inl ans) ∧ sz ≤ z ∧ KH m' X Z t0 mb D s1 (recH hs sv s) c (recV sv) ish tx ln := by
  obtain ⟨h1, h2, g2, h3, p, r⟩ := hd
  exact ⟨h1, h2, g2, h3, cg, p, fun i i0 i1 => by rw [r i i0 i1]; exact recR_recH hv q i0 i1⟩
theorem KH.undone {m' : Mem} {h : Int → Nat × BS} {cg : Int → Option Nat} {ret : Option AV} {z : Nat} {ans : Int} (hd : undone X Z t0 mb D s h (c, cg) sv ish tx ln ans sz ret z m') (q : ∀ i, 0 ≤ i → i < sv → (h i).2.1 = hs i) : ret = some (.inl ans) ∧ sz ≤ z ∧ KH m' X Z t0 mb D s hs c sv ish tx ln := by
  obtain ⟨h1, h2, g2, h3, p, r⟩ := hd
  exact ⟨h1, h2, g2, h3, cg, p, fun i i0 i1 => by rw [r i i0 i1]; exact q i i0 i1⟩
theorem KH.kept {m' : Mem} {h : Int → Nat × BS} {cg g : Int → Option Nat} {ret : Option AV} {z : Nat} {ans : Int} (hd : kept X Z t0 mb D (s, g) h (c, cg) sv ish tx ln ans sz ret z m') (q : ∀ i, 0 ≤ i → i < sv → (h i).2.1 = hs i) : ret = some (.inl ans) ∧ sz ≤ z ∧ KH m' X Z t0 mb D s hs c sv ish tx ln := by
  obtain ⟨h1, h2, p⟩ := hd
  exact ⟨h1, h2, g, h, cg, p, q⟩
end
