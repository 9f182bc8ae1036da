-- a call of the class and the same call of the reference
def Pair (G : GX) (kA kB : MK) (args : List AV) (X t0 : Nat) (C : Int) (M : Mem) (sz : Nat) : Prop := ∃ (ans : Int) (d mc ms : Nat) (Mid : Mem → Prop), (d ≤ 6 ∧ mc ≤ 107 ∧ ms ≤ 1118) ∧ Ok G kA d (.inr (some X) :: args) sz M mc ms (fun ret z m' => ret = some (.inl ans) ∧ sz ≤ z ∧ Mid m') ∧ ∀ z m', Mid m' → (∃ fs, m' (X + 157) = obj 6 fs) ∧ Ok G kB 8 (.inr (some (X + 157)) :: args) z m' 0 0 (fun ret z' m'' => ret = some (.inl ans) ∧ z' = z ∧ CP m'' X t0 (C + 21))
theorem KP.mono {M mb : Mem} {X t0 : Nat} {C D : Int} {s pa sh : Int → Int} {sv ish ln : Int} {tx : Int → Int} (k : KP M X t0 mb C s pa sv sh ish tx ln) (e : C ≤ D ∧ D ≤ 20000) : KP M X t0 mb D s pa sv sh ish tx ln := by
  obtain ⟨g, h, c, p, q1, q2⟩ := k
  exact ⟨g, h, c, p.mono e, q1, q2⟩
section
variable {G : GX} {kA kB : MK} {args : List AV} {X t0 : Nat} {C D : Int} {M M0 : Mem} {sz d mc ms : Nat} {ans : Int} {s pa sh s2 pa2 sh2 tx tx2 sp cl bf mk : Int → Int} {sv ish ln sv2 ish2 ln2 st : Int}
theorem pairMk (hM : M = MM M0 (X + 157) s sp pa sv sh ish tx ln cl bf mk st) (hD : D ≤ C + 21 ∧ C + 21 ≤ 20000) (hd : d ≤ 6 ∧ mc ≤ 107 ∧ ms ≤ 1118)
    (okA : Ok G kA d (.inr (some X) :: args) sz M mc ms (fun ret z m' => ret = some (.inl ans) ∧ sz ≤ z ∧ KP m' X t0 M D s2 pa2 sv2 sh2 ish2 tx2 ln2))
    (okB : ∀ z m', Ok G kB 8 (.inr (some (X + 157)) :: args) z (MM m' (X + 157) s sp pa sv sh ish tx ln cl bf mk st) 0 0 (fun ret z' m'' => ∃ s3, AG s3 s2 ∧ PX m' (X + 157) ans z s3 pa2 sv2 sh2 ish2 tx2 ln2 ret z' m'')) : Pair G kA kB args X t0 C M sz := by
  refine ⟨ans, d, mc, ms, fun m' => KP m' X t0 M D s2 pa2 sv2 sh2 ish2 tx2 ln2, hd, okA, fun z m' hm => ?_⟩
  have hm' := hm
  obtain ⟨g, h, c, p, q1, q2⟩ := hm
  have hF : FR m' M X (X + 166) := p.1.2.2.2.2.2.2.2.2.2.2.2.2.2
  have e : m' = MM m' (X + 157) s sp pa sv sh ish tx ln cl bf mk st := mmKeep (m0 := M0) (fun a a0 a1 => by rw [(hF a a0 (by omega)).1, hM])
  refine ⟨⟨mobj (X + 157) sv ish ln st, by rw [e]; exact MM_o⟩, ?_⟩
  have ok := okPost (okB z m') (Q := fun ret z' m'' => ret = some (.inl ans) ∧ z' = z ∧ CP m'' X t0 (C + 21)) (fun r z' m'' ⟨s3, hs, x1, x2, sp', cl', bf', mk', st', x3⟩ => by
    have x3 : m'' = MM m' (X + 157) s3 sp' pa2 sv2 sh2 ish2 tx2 ln2 cl' bf' mk' st' := x3
    refine ⟨x1, x2, s3, pa2, sv2, sh2, ish2, tx2, ln2, sp', cl', bf', mk', st', m', ?_, x3⟩
    refine KP.congr (KP.mono ⟨g, h, c, pqModel p (fun a ha => ?_) (fun a a0 a1 => ?_), q1, q2⟩ hD) hs
    · rw [x3, MM_n (by omega)]
    · rw [x3]; exact mmNu (by omega))
  rw [← e] at ok
  exact ok
theorem recAG {h : Int → Nat × BS} {i : Int} (hv : 0 ≤ sv ∧ sv ≤ 4) (q : ∀ i, 0 ≤ i → i < sv → AG (h i).2.1 (slice pa i)) (hi : 0 ≤ i ∧ i < recV sv) {s1 : Int → Int} (e : AG s1 s) : AG (recR h sv s1 i) (slice (recA pa sv s) i) := fun j j0 j1 => by
  unfold recV at hi
  unfold recR slice recA
  by_cases h4 : sv = 4
  · rw [if_pos h4] at hi
    rw [if_pos h4, if_pos h4, if_pos h4]
    by_cases h3 : i < 3
    · rw [if_pos h3, cpy_out (by omega), cpy_in (by omega), q (i + 1) (by omega) (by omega) j j0 j1]
      show pa (1870 * (i + 1) + j) = _
      congr 1
      omega
    · rw [if_neg h3, cpy_in (by omega), e j j0 j1]
      congr 1
      omega
  · rw [if_neg h4] at hi
    rw [if_neg h4, if_neg h4, if_neg h4]
    by_cases h3 : i < sv
    · rw [if_pos h3, cpy_out (by omega), q i (by omega) h3 j j0 j1]
      rfl
    · rw [if_neg h3, cpy_in (by omega), e j j0 j1]
      congr 1
      omega
theorem doneKP {m' mb : Mem} {h : Int → Nat × BS} {c : BS} {ret : Option AV} {z : Nat} {s1 : Int → Int} (hd : done X (X + 166) t0 mb D s1 s h c sv ish tx ln ans sz ret z m') (hv : 0 ≤ sv ∧ sv ≤ 4) (q : ∀ i, 0 ≤ i → i < sv → AG (h i).2.1 (slice pa i)) (q2 : ish ≠ 0 → AG c.1 sh) : ret = some (.inl ans) ∧ sz ≤ z ∧ KP m' X t0 mb D s1 (recA pa sv s) (recV sv) sh ish tx ln := by
  obtain ⟨h1, h2, g2, h3, p, r⟩ := hd
  exact ⟨h1, h2, g2, h3, c, p, fun i i0 i1 => by rw [r i i0 i1]; exact recAG hv q ⟨i0, i1⟩ (fun _ _ _ => rfl), q2⟩
theorem undoneKP {m' mb : Mem} {h : Int → Nat × BS} {c : BS} {ret : Option AV} {z : Nat} (hd : undone X (X + 166) t0 mb D s h c sv ish tx ln ans sz ret z m') (q : ∀ i, 0 ≤ i → i < sv → AG (h i).2.1 (slice pa i)) (q2 : ish ≠ 0 → AG c.1 sh) : ret = some (.inl ans) ∧ sz ≤ z ∧ KP m' X t0 mb D s pa sv sh ish tx ln := by
  obtain ⟨h1, h2, g2, h3, p, r⟩ := hd
  exact ⟨h1, h2, g2, h3, c, p, fun i i0 i1 => by rw [r i i0 i1]; exact q i i0 i1, q2⟩
theorem keptKP {m' mb : Mem} {h : Int → Nat × BS} {c : BS} {ret : Option AV} {z : Nat} {g : Int → Option Nat} (hd : kept X (X + 166) t0 mb D (s, g) h c sv ish tx ln ans sz ret z m') (q : ∀ i, 0 ≤ i → i < sv → AG (h i).2.1 (slice pa i)) (q2 : ish ≠ 0 → AG c.1 sh) : ret = some (.inl ans) ∧ sz ≤ z ∧ KP m' X t0 mb D s pa sv sh ish tx ln := by
  obtain ⟨h1, h2, p⟩ := hd
  exact ⟨h1, h2, g, h, c, p, q, q2⟩
theorem piKP {m' mb : Mem} {h : Int → Nat × BS} {c : BS} {ret : Option AV} {z : Nat} {g : Int → Option Nat} (hd : PI ans sz M ret z m') (p : PQ M X (X + 166) t0 mb D (s, g) h c sv ish tx ln) (q : ∀ i, 0 ≤ i → i < sv → AG (h i).2.1 (slice pa i)) (q2 : ish ≠ 0 → AG c.1 sh) : ret = some (.inl ans) ∧ sz ≤ z ∧ KP m' X t0 mb D s pa sv sh ish tx ln := by
  obtain ⟨h1, h2, rfl⟩ := hd
  exact ⟨h1, by omega, g, h, c, p, q, q2⟩
theorem pxS {m' m'' : Mem} {r : Option AV} {z z' : Nat} (h : PX m' (X + 157) ans z s2 pa2 sv2 sh2 ish2 tx2 ln2 r z' m'') : ∃ s3, AG s3 s2 ∧ PX m' (X + 157) ans z s3 pa2 sv2 sh2 ish2 tx2 ln2 r z' m'' := ⟨s2, fun _ _ _ => rfl, h⟩
end

