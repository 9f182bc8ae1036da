-- an act's end
abbrev ExtA (x : Nat) (m m1 : Mem) : Prop := ∀ a, a ≠ x → m1 a = m a
theorem EntsR.extA {Z t0 x : Nat} {m m1 : Mem} {s : Int → Int} {g : Int → Option Nat} (h : EntsR Z t0 m s g) (e : ExtA x m m1) (hB : t0 < x ∧ x < Z) : EntsR Z t0 m1 s g := fun i i0 i1 => by
  obtain ⟨v, hg, h1, am, va, nv, vf, h2, h3, h4, h5⟩ := h i i0 i1
  exact ⟨v, hg, h1, am, va, nv, vf, by rw [e v (by omega)]; exact h2, h3, by rw [e va (by omega)]; exact h4, h5⟩
theorem SlotsR.extA {Z x : Nat} {m m1 : Mem} {g : Int → Option Nat} (h : SlotsR Z m g) (e : ExtA x m m1) (hB : x < Z) : SlotsR Z m1 g := fun i i0 i1 v hv => by
  obtain ⟨h1, fs, h2⟩ := h i i0 i1 v hv
  exact ⟨h1, fs, by rw [e v (by omega)]; exact h2⟩
theorem BQ.extA {A Z x : Nat} {m m1 : Mem} {b : BS} (h : BQ Z m A b) (e : ExtA x m m1) (hB : x < A ∨ A + 22 ≤ x) (hZ : x < Z) : BQ Z m1 A b := ⟨h.1.keep (fun a a0 a1 => e a (by omega)), h.2.extA e hZ⟩
theorem Use.extA {Z t0 x : Nat} {m m1 : Mem} {C : Int} {b : BS} (h : Use Z t0 m C b) (e : ExtA x m m1) (hB : t0 < x ∧ x < Z) : Use Z t0 m1 C b := ⟨h.1.extA e hB, h.2⟩
theorem FR.extA {m m1 mb : Mem} {X Z x : Nat} (f : FR m mb X Z) (e : ExtA x m m1) (hB : x < X + 157) : FR m1 mb X Z := fun a a0 a1 => by
  obtain ⟨f1, f2⟩ := f a a0 a1
  exact ⟨by rw [e a (by omega)]; exact f1, f2⟩
-- the object's own numbers are written
theorem PQ0.num {m mb : Mem} {X Z t0 : Nat} {b : BS} {h : Int → Nat × BS} {c : BS} {sv ish : Int} {tx : Int → Int} {ln sv2 ish2 ln2 : Int} (p : PQ0 m X Z t0 mb b h c sv ish tx ln) (hv : (0 ≤ sv2 ∧ sv2 ≤ 4) ∧ (ish2 = 0 ∨ ish2 = 1) ∧ 0 ≤ ln2 ∧ ln2 ≤ 60) : PQ0 (upM m X (obj 5 (xobj X sv2 ish2 ln2))) X Z t0 mb b h c sv2 ish2 tx ln2 := by
  obtain ⟨p1, p2, p3, ⟨h0, p4⟩, p5, p6, p7, p8, p9, p10⟩ := p
  have e : ExtA X m (upM m X (obj 5 (xobj X sv2 ish2 ln2))) := fun a ha => upM_n ha
  refine ⟨upM_s, ?_, ?_, ⟨h0, ?_⟩, p5.extA e (by omega) (by omega), p6.extA e (by omega) (by omega), fun i i0 i1 => ?_, p8, p9, hv.1, hv.2.1, hv.2.2.1, hv.2.2.2, p10.2.2.2.2.extA e (by omega)⟩
  · rw [e _ (by omega)]; exact p2
  · rw [e _ (by omega)]; exact p3
  · rw [e _ (by omega)]; exact p4
  · have := (p8 i i0 i1).1
    exact (p7 i i0 i1).extA e (by omega) (by omega)
section
variable {G : GX} {sz : Nat} {m m1 mb : Mem} {X Z t0 : Nat} {C : Int} {b c : BS} {h : Int → Nat × BS} {sv ish ln : Int} {tx : Int → Int}
-- what failed is undone
theorem ok_end1 {ans : Int} {s' : Int → Int} {g' : Int → Option Nat} (p : PQ m X Z t0 mb C b h c sv ish tx ln) (u : Use Z t0 m C (h sv).2) (x : Ext m m1) (ha : ans < 0) : Ok G kX5_end 3 [.inr (some X), .inl ans] sz (BM m1 (X + 1) s' g') 0 0 (fun ret z m' => ret = some (.inl ans) ∧ z = sz ∧ ∃ g2, PQ m' X Z t0 mb C ((h sv).2.1, g2) h c sv ish tx ln) := by
  refine Ok.body [some (.inr (some X)), some (.inl ans)] rfl (Nat.le_of_ble_eq_true rfl) (by decide) ?_
  obtain ⟨p0, u1, u2, u3⟩ := id p
  obtain ⟨p1, p2, p3, p4, p5, p6, p7, p8, p9, p10, p11, p12⟩ := id p0
  have ps := p8 sv p10.1 (by omega)
  have hx : BM m1 (X + 1) s' g' X = obj 5 (xobj X sv ish ln) := (BM_n (Or.inl (by omega))).trans (x.at p1 obj_nu)
  have hh : BM m1 (X + 1) s' g' (X + 23) = rar 4 5 (harr h) := (BM_n (Or.inr (by omega))).trans (x.at p2 rar_nu)
  have x1 : ExtB (X + 1) m m1 := fun a h0 _ => x a h0
  have pb := (p7 sv p10.1 (by omega)).extB x1 (by omega) (by omega)
  refine V.ild1 aX5_end_0 ?_
  refine V.if_ge aX5_end_1 (tgt := 23) (by decide) (fun c1 => ?_) (fun c1 => ?_)
  · exfalso
    omega
  · refine V.ald0 aX5_end_4 ?_
    refine V.getf aX5_end_5 fl_RX5_12 hx rfl ?_
    refine V.ald0 aX5_end_8 ?_
    refine V.getf aX5_end_9 fl_RX5_16 hx rfl ?_
    refine V.ald0 aX5_end_12 ?_
    refine V.getf aX5_end_13 fl_RX5_121 hx rfl ?_
    refine V.aald aX5_end_16 hh p10.1 (show sv < 5 by omega) ?_
    rw [show harr h sv = some (h sv).1 from if_pos ⟨p10.1, by omega⟩]
    refine call_X4_copyFrom aX5_end_17 gl_RX5_124 (ok_copy4 pb.1 (by omega) pb.2 (by omega) u.2.D u.D4) BM_S (Nat.le_of_ble_eq_true rfl) (by decide) (fun r17 z17 m17 h17 => ?_)
    obtain ⟨rfl, rfl, g2, hg, rfl⟩ := h17
    refine V.goto aX5_end_20 (tgt := 48) (by decide) ?_
    refine V.ild1 aX5_end_48 ?_
    refine V.iret aX5_end_49 rfl (by decide) ?_
    have y : ExtB (X + 1) m (BM m1 (X + 1) (h sv).2.1 g2) := fun a h0 h1 => by rw [BM_n h1]; exact x a h0
    have us := u.extB y (by omega)
    refine ⟨rfl, rfl, g2, p0.now y ⟨Blk.of, ((p7 sv p10.1 (by omega)).2.extB y (by omega)).gc hg⟩, ⟨us.1.gc u.2.N hg, u.2⟩, fun q => (u2 q).extB y (by omega), fun i i0 i1 => (u3 i i0 i1).extB y (by omega)⟩
-- what went well is recorded
theorem ok_end2 {ans : Int} (p : PQ m X Z t0 mb C b h c sv ish tx ln) (u : Use Z t0 m C (h sv).2) (ha : 0 ≤ ans) (hs : sv < 4) : Ok G kX5_end 3 [.inr (some X), .inl ans] sz m 0 0 (fun ret z m' => ret = some (.inl ans) ∧ z = sz ∧ PQ m' X Z t0 mb C b h c (sv + 1) ish tx ln) := by
  refine Ok.body [some (.inr (some X)), some (.inl ans)] rfl (Nat.le_of_ble_eq_true rfl) (by decide) ?_
  obtain ⟨p0, u1, u2, u3⟩ := id p
  obtain ⟨p1, p2, p3, p4, p5, p6, p7, p8, p9, p10, p11, p12⟩ := id p0
  have hx := p1
  refine V.ild1 aX5_end_0 ?_
  refine V.if_ge aX5_end_1 (tgt := 23) (by decide) (fun c1 => ?_) (fun c1 => ?_)
  · refine V.ald0 aX5_end_23 ?_
    refine V.getf aX5_end_24 fl_RX5_121 hx rfl ?_
    refine V.iconst aX5_end_27 (by decide) ?_
    refine V.icmp_ge aX5_end_28 (tgt := 44) (by decide) (fun c28 => ?_) (fun c28 => ?_)
    · exfalso
      omega
    · refine V.ald0 aX5_end_31 ?_
      refine V.dup aX5_end_32 ?_
      refine V.getf aX5_end_33 fl_RX5_121 hx rfl ?_
      refine V.iconst aX5_end_36 (by decide) ?_
      refine V.iadd aX5_end_37 (by omega) ?_
      refine V.putf aX5_end_38 fl_RX5_121 hx (Nat.le_of_ble_eq_true rfl) rfl rfl ?_
      refine V.goto aX5_end_41 (tgt := 48) (by decide) ?_
      refine V.ild1 aX5_end_48 ?_
      refine V.iret aX5_end_49 rfl (by decide) ?_
      have e : ExtA X m (upM m X (obj 5 (xobj X (sv + 1) ish ln))) := fun a ha => upM_n ha
      refine ⟨rfl, rfl, p0.num ⟨by omega, p11, p12.1, p12.2.1⟩, u1.extA e (by omega), fun q => (u2 q).extA e (by omega), fun i i0 i1 => ?_⟩
      by_cases q : i = sv
      · subst q; exact u.extA e (by omega)
      · exact (u3 i i0 (by omega)).extA e (by omega)
  · exfalso
    omega
end
