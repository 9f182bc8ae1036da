-- the whole log: its object, seven blocks, its text
abbrev BS : Type := (Int → Int) × (Int → Option Nat)
def harr (h : Int → Nat × BS) : Int → Option Nat := fun i => if 0 ≤ i ∧ i < 5 then some (h i).1 else none
def xobj (X : Nat) (sv ish ln : Int) : List AV := [.inr (some (X + 1)), .inr (some (X + 23)), .inl sv, .inr (some (X + 134)), .inl ish, .inr (some (X + 156)), .inl ln]
def Use (Z t0 : Nat) (m : Mem) (C : Int) (b : BS) : Prop := EntsR Z t0 m b.1 b.2 ∧ Inv C b.1
def BQ (Z : Nat) (m : Mem) (A : Nat) (b : BS) : Prop := Blk m A b.1 b.2 ∧ SlotsR Z m b.2
def HQ (X : Nat) (h : Int → Nat × BS) : Prop := ∀ i, 0 ≤ i → i < 5 → (X + 24 ≤ (h i).1 ∧ (h i).1 + 22 ≤ X + 134) ∧ ∀ j, 0 ≤ j → j < 5 → j ≠ i → (h i).1 + 22 ≤ (h j).1 ∨ (h j).1 + 22 ≤ (h i).1
def FR (m mb : Mem) (X Z : Nat) : Prop := ∀ a, X + 157 ≤ a → a < Z → m a = mb a ∧ mb a ≠ unk
-- all but what is in use
def PQ0 (m : Mem) (X Z t0 : Nat) (mb : Mem) (b : BS) (h : Int → Nat × BS) (c : BS) (sv ish : Int) (tx : Int → Int) (ln : Int) : Prop := m X = obj 5 (xobj X sv ish ln) ∧ m (X + 23) = rar 4 5 (harr h) ∧ m (X + 156) = car 60 tx ∧ (∃ h0, m t0 = iar 0 h0) ∧ BQ Z m (X + 1) b ∧ BQ Z m (X + 134) c ∧ (∀ i, 0 ≤ i → i < 5 → BQ Z m (h i).1 (h i).2) ∧ HQ X h ∧ (t0 < X ∧ X + 157 ≤ Z) ∧ (0 ≤ sv ∧ sv ≤ 4) ∧ (ish = 0 ∨ ish = 1) ∧ 0 ≤ ln ∧ ln ≤ 60 ∧ FR m mb X Z
def PQ (m : Mem) (X Z t0 : Nat) (mb : Mem) (C : Int) (b : BS) (h : Int → Nat × BS) (c : BS) (sv ish : Int) (tx : Int → Int) (ln : Int) : Prop := PQ0 m X Z t0 mb b h c sv ish tx ln ∧ Use Z t0 m C b ∧ (ish ≠ 0 → Use Z t0 m C c) ∧ ∀ i, 0 ≤ i → i < sv → Use Z t0 m C (h i).2
theorem Use.ext {Z t0 : Nat} {m m1 : Mem} {C : Int} {b : BS} (h : Use Z t0 m C b) (x : Ext m m1) : Use Z t0 m1 C b := ⟨h.1.ext x, h.2⟩
theorem Use.mono {Z t0 : Nat} {m : Mem} {C D : Int} {b : BS} (h : Use Z t0 m C b) (x : C ≤ D ∧ D ≤ 20000) : Use Z t0 m D b := ⟨h.1, h.2.mono x⟩
-- memories that agree but for a block's cells: entries lie elsewhere
abbrev ExtB (B : Nat) (m m1 : Mem) : Prop := ∀ a, m a ≠ unk → (a < B ∨ B + 22 ≤ a) → m1 a = m a
theorem EntR.extB {Z t0 B : Nat} {m m1 : Mem} {e : Nat} {f : Int → Int} {a : Int} (h : EntR Z t0 m e f a) (x : ExtB B m m1) (hB : t0 < B ∧ B + 22 ≤ Z) : EntR Z t0 m1 e f a := by
  obtain ⟨h1, am, va, nv, vf, h2, h3, h4, h5⟩ := h
  refine ⟨h1, am, va, nv, vf, ?_, h3, ?_, h5⟩
  · rw [x e (by rw [h2]; exact obj_nu) (by omega)]; exact h2
  · rw [x va (by rw [h4]; exact iar_nu) (by omega)]; exact h4
theorem EntsR.extB {Z t0 B : Nat} {m m1 : Mem} {s : Int → Int} {g : Int → Option Nat} (h : EntsR Z t0 m s g) (x : ExtB B m m1) (hB : t0 < B ∧ B + 22 ≤ Z) : EntsR Z t0 m1 s g := fun i i0 i1 => by
  obtain ⟨e, hg, he⟩ := h i i0 i1
  exact ⟨e, hg, he.extB x hB⟩
theorem SlotsR.extB {Z B : Nat} {m m1 : Mem} {g : Int → Option Nat} (h : SlotsR Z m g) (x : ExtB B m m1) (hB : B + 22 ≤ Z) : SlotsR Z m1 g := fun i i0 i1 e he => by
  obtain ⟨h1, fs, h2⟩ := h i i0 i1 e he
  exact ⟨h1, fs, by rw [x e (by rw [h2]; exact obj_nu) (by omega)]; exact h2⟩
theorem Blk.extB {A B : Nat} {m m1 : Mem} {s : Int → Int} {g : Int → Option Nat} (h : Blk m A s g) (x : ExtB B m m1) (hB : A + 22 ≤ B ∨ B + 22 ≤ A) : Blk m1 A s g := by
  obtain ⟨h0, h1, h2, h3, h4⟩ := h
  refine ⟨?_, ?_, ?_, ?_, fun q hq => ?_⟩
  · rw [x _ (by rw [h0]; exact obj_nu) (by omega)]; exact h0
  · rw [x _ (by rw [h1]; exact rar_nu) (by omega)]; exact h1
  · rw [x _ (by rw [h2]; exact obj_nu) (by omega)]; exact h2
  · rw [x _ (by rw [h3]; exact rar_nu) (by omega)]; exact h3
  · obtain ⟨d1, d2, d3⟩ := h4 q hq
    refine ⟨?_, ?_, ?_⟩
    · rw [x _ (by rw [d1]; exact obj_nu) (by omega)]; exact d1
    · rw [x _ (by rw [d2]; exact iar_nu) (by omega)]; exact d2
    · rw [x _ (by rw [d3]; exact iar_nu) (by omega)]; exact d3
theorem BQ.extB {A B Z : Nat} {m m1 : Mem} {b : BS} (h : BQ Z m A b) (x : ExtB B m m1) (hB : A + 22 ≤ B ∨ B + 22 ≤ A) (hZ : B + 22 ≤ Z) : BQ Z m1 A b := ⟨h.1.extB x hB, h.2.extB x hZ⟩
theorem Use.extB {Z t0 B : Nat} {m m1 : Mem} {C : Int} {b : BS} (h : Use Z t0 m C b) (x : ExtB B m m1) (hB : t0 < B ∧ B + 22 ≤ Z) : Use Z t0 m1 C b := ⟨h.1.extB x hB, h.2⟩
theorem FR.extB {m m1 mb : Mem} {X Z B : Nat} (f : FR m mb X Z) (x : ExtB B m m1) (hB : B + 22 ≤ X + 157) : FR m1 mb X Z := fun a a0 a1 => by
  obtain ⟨f1, f2⟩ := f a a0 a1
  exact ⟨by rw [x a (by rw [f1]; exact f2) (by omega)]; exact f1, f2⟩
-- the block of what is now is written
theorem PQ0.now {m m1 mb : Mem} {X Z t0 : Nat} {b b1 : BS} {h : Int → Nat × BS} {c : BS} {sv ish : Int} {tx : Int → Int} {ln : Int} (p : PQ0 m X Z t0 mb b h c sv ish tx ln) (x : ExtB (X + 1) m m1) (hb : BQ Z m1 (X + 1) b1) : PQ0 m1 X Z t0 mb b1 h c sv ish tx ln := by
  obtain ⟨p1, p2, p3, ⟨h0, p4⟩, p5, p6, p7, p8, p9, p10⟩ := p
  refine ⟨?_, ?_, ?_, ⟨h0, ?_⟩, hb, p6.extB x (by omega) (by omega), fun i i0 i1 => ?_, p8, p9, p10.1, p10.2.1, p10.2.2.1, p10.2.2.2.1, p10.2.2.2.2.extB x (by omega)⟩
  · rw [x _ (by rw [p1]; exact obj_nu) (by omega)]; exact p1
  · rw [x _ (by rw [p2]; exact rar_nu) (by omega)]; exact p2
  · rw [x _ (by rw [p3]; exact car_nu) (by omega)]; exact p3
  · rw [x _ (by rw [p4]; exact iar_nu) (by omega)]; exact p4
  · have := (p8 i i0 i1).1
    exact (p7 i i0 i1).extB x (by omega) (by omega)
-- a block of the history is written
theorem PQ0.his {m m1 mb : Mem} {X Z t0 : Nat} {b b1 : BS} {h : Int → Nat × BS} {c : BS} {sv ish : Int} {tx : Int → Int} {ln : Int} {k : Int} (p : PQ0 m X Z t0 mb b h c sv ish tx ln) (hk : 0 ≤ k ∧ k < 5) (x : ExtB (h k).1 m m1) (hb : BQ Z m1 (h k).1 b1) : PQ0 m1 X Z t0 mb b (upI h k ((h k).1, b1)) c sv ish tx ln := by
  obtain ⟨p1, p2, p3, ⟨h0, p4⟩, p5, p6, p7, p8, p9, p10⟩ := p
  have pk := p8 k hk.1 hk.2
  have ea : ∀ i, (upI h k ((h k).1, b1) i).1 = (h i).1 := fun i => by
    by_cases q : i = k
    · subst q; rw [upI_s]
    · rw [upI_n q]
  refine ⟨?_, ?_, ?_, ⟨h0, ?_⟩, p5.extB x (by omega) (by omega), p6.extB x (by omega) (by omega), fun i i0 i1 => ?_, fun i i0 i1 => ?_, p9, p10.1, p10.2.1, p10.2.2.1, p10.2.2.2.1, p10.2.2.2.2.extB x (by omega)⟩
  · rw [x _ (by rw [p1]; exact obj_nu) (by omega)]; exact p1
  · rw [x _ (by rw [p2]; exact rar_nu) (by omega), p2]
    congr 1
    funext i
    unfold harr
    rw [ea]
  · rw [x _ (by rw [p3]; exact car_nu) (by omega)]; exact p3
  · rw [x _ (by rw [p4]; exact iar_nu) (by omega)]; exact p4
  · by_cases q : i = k
    · subst q
      rw [upI_s]
      exact hb
    · rw [upI_n q]
      have := pk.2 i i0 i1 q
      exact (p7 i i0 i1).extB x (by omega) (by omega)
  · rw [ea]
    exact ⟨(p8 i i0 i1).1, fun j j0 j1 jn => by rw [ea]; exact (p8 i i0 i1).2 j j0 j1 jn⟩
section
variable {G : GX} {sz : Nat} {m mb : Mem} {X Z t0 : Nat} {C : Int} {b c : BS} {h : Int → Nat × BS} {sv ish ln : Int} {tx : Int → Int}
theorem Use.D4 (u : Use Z t0 m C b) : ∀ p, 0 ≤ p → p < 6 → b.1 (164 + p) = -5 ∨ 0 ≤ b.1 (164 + p) := fun p p0 p1 => by
  have := (u.2.page p0 p1).2.2
  omega
theorem EntsR.gc {s : Int → Int} {g g1 : Int → Option Nat} (h : EntsR Z t0 m s g) (hN : Num s) (e : ∀ i, 0 ≤ i → i < 100 → g1 i = g i) : EntsR Z t0 m s g1 := fun i i0 i1 => by
  obtain ⟨n0, n1, n2, n3, n4⟩ := hN
  rw [e i i0 (by omega)]
  exact h i i0 i1
theorem SlotsR.gc {g g1 : Int → Option Nat} (h : SlotsR Z m g) (e : ∀ i, 0 ≤ i → i < 100 → g1 i = g i) : SlotsR Z m g1 := fun i i0 i1 v hv => by
  rw [e i i0 i1] at hv
  exact h i i0 i1 v hv
-- trying from here: the block behind the latest state is a copy of what is now
theorem ok_begin (p : PQ m X Z t0 mb C b h c sv ish tx ln) : Ok G kX5_begin 3 [.inr (some X)] sz m 0 0 (fun ret z m' => ret = none ∧ z = sz ∧ ∃ g', PQ m' X Z t0 mb C b (upI h sv ((h sv).1, (b.1, g'))) c sv ish tx ln ∧ Use Z t0 m' C (b.1, g')) := by
  refine Ok.body [some (.inr (some X))] rfl (Nat.le_of_ble_eq_true rfl) (by decide) ?_
  obtain ⟨p0, u1, u2, u3⟩ := id p
  obtain ⟨p1, p2, p3, p4, p5, p6, p7, p8, p9, p10, p11, p12⟩ := id p0
  have ps := p8 sv p10.1 (by omega)
  have hx := p1
  have e0 : m = BM m (h sv).1 (h sv).2.1 (h sv).2.2 := (p7 sv p10.1 (by omega)).1.eq
  have ok4 := ok_copy4 (G := G) (sz := sz) (m := m) (A := X + 1) (D := (h sv).1) (s := b.1) (t := (h sv).2.1) (g := b.2) (h := (h sv).2.2) p5.1 (by omega) p5.2 (show (h sv).1 + 22 ≤ Z by omega) u1.2.D u1.D4
  rw [← e0] at ok4
  refine V.ald0 aX5_begin_0 ?_
  refine V.getf aX5_begin_1 fl_RX5_16 hx rfl ?_
  refine V.ald0 aX5_begin_4 ?_
  refine V.getf aX5_begin_5 fl_RX5_121 hx rfl ?_
  refine V.aald aX5_begin_8 p2 p10.1 (show sv < 5 by omega) ?_
  rw [show harr h sv = some (h sv).1 from if_pos ⟨p10.1, by omega⟩]
  refine V.ald0 aX5_begin_9 ?_
  refine V.getf aX5_begin_10 fl_RX5_12 hx rfl ?_
  refine call_X4_copyFrom aX5_begin_13 gl_RX5_124 ok4 (p7 sv p10.1 (by omega)).1.1 (Nat.le_of_ble_eq_true rfl) (by decide) (fun r13 z13 m13 h13 => ?_)
  obtain ⟨rfl, rfl, g', hg, rfl⟩ := h13
  refine V.ret aX5_begin_16 rfl (by decide) ?_
  have x : ExtB (h sv).1 m (BM m (h sv).1 b.1 g') := fun a _ ha => BM_n ha
  have hB : t0 < (h sv).1 ∧ (h sv).1 + 22 ≤ Z := by omega
  have us := u1.extB x hB
  have us2 : Use Z t0 (BM m (h sv).1 b.1 g') C (b.1, g') := ⟨us.1.gc u1.2.N hg, u1.2⟩
  refine ⟨rfl, rfl, g', ⟨p0.his ⟨p10.1, by omega⟩ x ⟨Blk.of, (p5.2.extB x hB.2).gc hg⟩, us, fun q => (u2 q).extB x hB, fun i i0 i1 => ?_⟩, us2⟩
  rw [upI_n (by omega)]
  exact (u3 i i0 i1).extB x hB
end
