-- a call of the class and the same call of the reference
theorem okKeep {G : GX} {y : MK} {d : Nat} {args : List AV} {sz : Nat} {m : Mem} {mc ms : Nat} {P : PO} {b : Nat} (hb : b < G.2.2.1) (ok : Ok G y d args sz m mc ms P) : Ok G y d args sz m mc ms (fun r z m' => ∃ m1, P r z m1 ∧ m' = upM m1 b (m b)) := by
  intro p e ha hc hk s mid av below hf happ hP hT
  obtain ⟨t, o, h1, h2, h3, ⟨r, z, m', e1, e2, e3, e4, e5⟩, L, h5, h6⟩ := ok p e ha hc hk s mid av below hf happ hP hT
  have hR : Rel G s s.heap sz m := hP.2.2.2
  have hq : b < sz := Nat.lt_of_lt_of_le hb hR.2.1
  have hh := e5.2 b (by rw [hR.1]; exact hq) (fun g => by have : G.2.2.1 ≤ b := g; omega)
  exact ⟨t, o, h1, h2, h3, ⟨r, z, upM m' b (m b), e1, ⟨m', e2, rfl⟩, e3, e4.set rfl (fun _ _ => rfl) (((hR.2.2 b).moved h5.2.1.alike).kept hh), e5⟩, L, h5, h6⟩
def Pair (G : GX) (kA kB : MK) (args : List AV) (X t0 b : Nat) (C : Int) (M : Mem) (sz : Nat) : Prop := ∃ (ans : Int) (d mc ms : Nat) (Mid : Mem → Prop), (d ≤ 6 ∧ mc ≤ 107 ∧ ms ≤ 1118) ∧ Ok G kA d (.inr (some X) :: args) sz M mc ms (fun ret z m' => ret = some (.inl ans) ∧ sz ≤ z ∧ Mid m' ∧ m' b = M b) ∧ ∀ z m', Mid m' → (∃ fs, m' (X + 157) = obj 6 fs) ∧ Ok G kB 8 (.inr (some (X + 157)) :: args) z m' 0 0 (fun ret z' m'' => ret = some (.inl ans) ∧ z' = z ∧ CP m'' X t0 (C + 21) ∧ m'' b = m' b)
-- a cell in front of the class's
theorem pqFront {m mb : Mem} {X t0 b0 : Nat} {cc : AC} {C : Int} {b c : BS} {h : Int → Nat × BS} {sv ish ln : Int} {tx : Int → Int} (p : PQ m X (X + 166) t0 mb C b h c sv ish tx ln) (hb : b0 < X ∧ b0 ≠ t0) : PQ (upM m b0 cc) X (X + 166) t0 mb C b h c sv ish tx ln := by
  have x : ∀ a, (X ≤ a ∨ a = t0) → upM m b0 cc a = m a := fun a ha => upM_n (by omega)
  obtain ⟨⟨p1, p2, p3, ⟨h0, p4⟩, p5, p6, p7, p8, p9, p10, p11, p12, p13, p14⟩, u1, u2, u3⟩ := p
  have ent : ∀ (s : Int → Int) (g : Int → Option Nat), EntsR (X + 166) t0 m s g → EntsR (X + 166) t0 (upM m b0 cc) s g := fun s g hE i i0 i1 => by
    obtain ⟨e, q1, q2, am, va, nv, vf, q3, q4, q5, q6⟩ := hE i i0 i1
    exact ⟨e, q1, q2, am, va, nv, vf, (x e (by omega)).trans q3, q4, (x va (by omega)).trans q5, q6⟩
  have blk : ∀ (A : Nat) (d : BS), X ≤ A → BQ (X + 166) m A d → BQ (X + 166) (upM m b0 cc) A d := fun A d hA q => ⟨q.1.keep (fun a a0 a1 => x a (by omega)), fun i i0 i1 e he => by
    obtain ⟨q1, fs, q2⟩ := q.2 i i0 i1 e he
    exact ⟨q1, fs, (x e (by omega)).trans q2⟩⟩
  have use : ∀ (d : BS), Use (X + 166) t0 m C d → Use (X + 166) t0 (upM m b0 cc) C d := fun d u => ⟨ent _ _ u.1, u.2⟩
  exact ⟨⟨(x _ (by omega)).trans p1, (x _ (by omega)).trans p2, (x _ (by omega)).trans p3, ⟨h0, (x _ (by omega)).trans p4⟩, blk _ _ (by omega) p5, blk _ _ (by omega) p6, fun i i0 i1 => blk _ _ (by have := (p8 i i0 i1).1; omega) (p7 i i0 i1), p8, p9, p10, p11, p12, p13, fun a a0 a1 => by rw [x a (by omega)]; exact p14 a a0 a1⟩, use _ u1, fun q => use _ (u2 q), fun i i0 i1 => use _ (u3 i i0 i1)⟩
theorem KP.mono {M mb : Mem} {X t0 : Nat} {C D : Int} {s pa sh : Int → Int} {sv ish ln : Int} {tx : Int → Int} (k : KP M X t0 mb C s pa sv sh ish tx ln) (e : C ≤ D ∧ D ≤ 20000) : KP M X t0 mb D s pa sv sh ish tx ln := by
  obtain ⟨g, h, c, p, q1, q2⟩ := k
  exact ⟨g, h, c, p.mono e, q1, q2⟩
section
variable {G : GX} {kA kB : MK} {args : List AV} {X t0 b : Nat} {C D : Int} {M M0 : Mem} {sz d mc ms : Nat} {ans : Int} {s pa sh s2 pa2 sh2 tx tx2 sp cl bf mk : Int → Int} {sv ish ln sv2 ish2 ln2 st : Int}
theorem pairMk (hb : b < G.2.2.1 ∧ G.2.2.1 ≤ X ∧ b ≠ t0) (hM : M = MM M0 (X + 157) s sp pa sv sh ish tx ln cl bf mk st) (hD : D ≤ C + 21 ∧ C + 21 ≤ 20000) (hd : d ≤ 6 ∧ mc ≤ 107 ∧ ms ≤ 1118)
    (okA : Ok G kA d (.inr (some X) :: args) sz M mc ms (fun ret z m' => ret = some (.inl ans) ∧ sz ≤ z ∧ KP m' X t0 M D s2 pa2 sv2 sh2 ish2 tx2 ln2))
    (okB : ∀ z m', Ok G kB 8 (.inr (some (X + 157)) :: args) z (MM m' (X + 157) s sp pa sv sh ish tx ln cl bf mk st) 0 0 (fun ret z' m'' => ∃ s3, AG s3 s2 ∧ PX m' (X + 157) ans z s3 pa2 sv2 sh2 ish2 tx2 ln2 ret z' m'')) : Pair G kA kB args X t0 b C M sz := by
  have front : ∀ (m1 mb : Mem) (cc : AC) (E : Int) (s' pa' : Int → Int) (sv' : Int) (sh' : Int → Int) (ish' : Int) (tx' : Int → Int) (ln' : Int), KP m1 X t0 mb E s' pa' sv' sh' ish' tx' ln' → KP (upM m1 b cc) X t0 mb E s' pa' sv' sh' ish' tx' ln' := fun m1 mb cc E s' pa' sv' sh' ish' tx' ln' k => by
    obtain ⟨g, h, c, p, q1, q2⟩ := k
    exact ⟨g, h, c, pqFront p ⟨by omega, hb.2.2⟩, q1, q2⟩
  refine ⟨ans, d, mc, ms, fun m' => KP m' X t0 M D s2 pa2 sv2 sh2 ish2 tx2 ln2, hd, okPost (okKeep hb.1 okA) (fun r z m' ⟨m1, ⟨x1, x2, x3⟩, x4⟩ => ⟨x1, x2, by rw [x4]; exact front _ _ _ _ _ _ _ _ _ _ _ x3, by rw [x4, upM_s]⟩), fun z m' hm => ?_⟩
  have hm' := hm
  obtain ⟨g, h, c, p, q1, q2⟩ := hm
  have hF : FR m' M X (X + 166) := p.1.2.2.2.2.2.2.2.2.2.2.2.2.2
  have e : m' = MM m' (X + 157) s sp pa sv sh ish tx ln cl bf mk st := mmKeep (m0 := M0) (fun a a0 a1 => by rw [(hF a a0 (by omega)).1, hM])
  refine ⟨⟨mobj (X + 157) sv ish ln st, by rw [e]; exact MM_o⟩, ?_⟩
  have ok := okPost (okB z m') (Q := fun ret z' m'' => ret = some (.inl ans) ∧ z' = z ∧ CP m'' X t0 (C + 21)) (fun r z' m'' ⟨s3, hs, x1, x2, sp', cl', bf', mk', st', x3⟩ => by
    have x3 : m'' = MM m' (X + 157) s3 sp' pa2 sv2 sh2 ish2 tx2 ln2 cl' bf' mk' st' := x3
    refine ⟨x1, x2, s3, pa2, sv2, sh2, ish2, tx2, ln2, sp', cl', bf', mk', st', m', ?_, x3⟩
    refine KP.congr (KP.mono ⟨g, h, c, pqModel p (fun a ha => ?_) (fun a a0 a1 => ?_), q1, q2⟩ hD) hs
    · rw [x3, MM_n (by omega)]
    · rw [x3]; exact mmNu (by omega))
  rw [← e] at ok
  refine okPost (okKeep hb.1 ok) (fun r z' m'' ⟨m1, ⟨x1, x2, x3⟩, x4⟩ => ⟨x1, x2, ?_, by rw [x4, upM_s]⟩)
  obtain ⟨s', pa', sv', sh', ish', tx', ln', sp', cl', bf', mk', st', M1, k, x5⟩ := x3
  have x6 : m'' = MM m'' (X + 157) s' sp' pa' sv' sh' ish' tx' ln' cl' bf' mk' st' := mmKeep (m0 := M1) (fun a a0 a1 => by rw [x4, upM_n (by omega), x5])
  refine ⟨s', pa', sv', sh', ish', tx', ln', sp', cl', bf', mk', st', m'', ?_, x6⟩
  have k2 := front m1 m1 (m' b) _ _ _ _ _ _ _ _ k
  rw [← x4] at k2
  obtain ⟨g2, h2, c2, p2, r1, r2⟩ := k2
  exact ⟨g2, h2, c2, pqModel p2 (fun _ _ => rfl) (fun a a0 a1 => by rw [x6]; exact mmNu (by omega)), r1, r2⟩
theorem recAG {h : Int → Nat × BS} {i : Int} (hv : 0 ≤ sv ∧ sv ≤ 4) (q : ∀ i, 0 ≤ i → i < sv → AG (h i).2.1 (slice pa i)) (hi : 0 ≤ i ∧ i < recV sv) {s1 : Int → Int} (e : AG s1 s) : AG (recR h sv s1 i) (slice (recA pa sv s) i) := fun j j0 j1 => by
  unfold recV at hi
  unfold recR slice recA
  by_cases h4 : sv = 4
  · rw [if_pos h4] at hi
    rw [if_pos h4, if_pos h4, if_pos h4]
    by_cases h3 : i < 3
    · rw [if_pos h3, cpy_out (by omega), cpy_in (by omega), q (i + 1) (by omega) (by omega) j j0 j1]
      show pa (1870 * (i + 1) + j) = _
      congr 1
      omega
    · rw [if_neg h3, cpy_in (by omega), e j j0 j1]
      congr 1
      omega
  · rw [if_neg h4] at hi
    rw [if_neg h4, if_neg h4, if_neg h4]
    by_cases h3 : i < sv
    · rw [if_pos h3, cpy_out (by omega), q i (by omega) h3 j j0 j1]
      rfl
    · rw [if_neg h3, cpy_in (by omega), e j j0 j1]
      congr 1
      omega
theorem doneKP {m' mb : Mem} {h : Int → Nat × BS} {c : BS} {ret : Option AV} {z : Nat} {s1 : Int → Int} (hd : done X (X + 166) t0 mb D s1 s h c sv ish tx ln ans sz ret z m') (hv : 0 ≤ sv ∧ sv ≤ 4) (q : ∀ i, 0 ≤ i → i < sv → AG (h i).2.1 (slice pa i)) (q2 : ish ≠ 0 → AG c.1 sh) : ret = some (.inl ans) ∧ sz ≤ z ∧ KP m' X t0 mb D s1 (recA pa sv s) (recV sv) sh ish tx ln := by
  obtain ⟨h1, h2, g2, h3, p, r⟩ := hd
  exact ⟨h1, h2, g2, h3, c, p, fun i i0 i1 => by rw [r i i0 i1]; exact recAG hv q ⟨i0, i1⟩ (fun _ _ _ => rfl), q2⟩
theorem undoneKP {m' mb : Mem} {h : Int → Nat × BS} {c : BS} {ret : Option AV} {z : Nat} (hd : undone X (X + 166) t0 mb D s h c sv ish tx ln ans sz ret z m') (q : ∀ i, 0 ≤ i → i < sv → AG (h i).2.1 (slice pa i)) (q2 : ish ≠ 0 → AG c.1 sh) : ret = some (.inl ans) ∧ sz ≤ z ∧ KP m' X t0 mb D s pa sv sh ish tx ln := by
  obtain ⟨h1, h2, g2, h3, p, r⟩ := hd
  exact ⟨h1, h2, g2, h3, c, p, fun i i0 i1 => by rw [r i i0 i1]; exact q i i0 i1, q2⟩
theorem keptKP {m' mb : Mem} {h : Int → Nat × BS} {c : BS} {ret : Option AV} {z : Nat} {g : Int → Option Nat} (hd : kept X (X + 166) t0 mb D (s, g) h c sv ish tx ln ans sz ret z m') (q : ∀ i, 0 ≤ i → i < sv → AG (h i).2.1 (slice pa i)) (q2 : ish ≠ 0 → AG c.1 sh) : ret = some (.inl ans) ∧ sz ≤ z ∧ KP m' X t0 mb D s pa sv sh ish tx ln := by
  obtain ⟨h1, h2, p⟩ := hd
  exact ⟨h1, h2, g, h, c, p, q, q2⟩
theorem piKP {m' mb : Mem} {h : Int → Nat × BS} {c : BS} {ret : Option AV} {z : Nat} {g : Int → Option Nat} (hd : PI ans sz M ret z m') (p : PQ M X (X + 166) t0 mb D (s, g) h c sv ish tx ln) (q : ∀ i, 0 ≤ i → i < sv → AG (h i).2.1 (slice pa i)) (q2 : ish ≠ 0 → AG c.1 sh) : ret = some (.inl ans) ∧ sz ≤ z ∧ KP m' X t0 mb D s pa sv sh ish tx ln := by
  obtain ⟨h1, h2, rfl⟩ := hd
  exact ⟨h1, by omega, g, h, c, p, q, q2⟩
theorem pxS {m' m'' : Mem} {r : Option AV} {z z' : Nat} (h : PX m' (X + 157) ans z s2 pa2 sv2 sh2 ish2 tx2 ln2 r z' m'') : ∃ s3, AG s3 s2 ∧ PX m' (X + 157) ans z s3 pa2 sv2 sh2 ish2 tx2 ln2 r z' m'' := ⟨s2, fun _ _ _ => rfl, h⟩
end

