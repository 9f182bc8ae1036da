-- acts of the whole log (part eight): history
section
variable {G : GX} {sz : Nat} {m m1 mb : Mem} {X Z t0 : Nat} {C D : Int} {b c : BS} {h : Int → Nat × BS} {sv ish ln : Int} {tx : Int → Int}
theorem ok5_undo1 (p : PQ m X Z t0 mb C b h c sv ish tx ln) (hf : sv = 0) : Ok G kX5_undo 3 [.inr (some X)] sz m 0 0 (PI (-5) sz m) := by
  refine Ok.body [some (.inr (some X))] rfl (Nat.le_of_ble_eq_true rfl) (by decide) ?_
  have hx := p.1.1
  refine V.ald0 aX5_undo_0 ?_
  refine V.getf aX5_undo_1 fl_RX5_121 hx rfl ?_
  refine V.if_ne aX5_undo_4 (tgt := 10) (by decide) (fun c4 => ?_) (fun c4 => ?_)
  · exfalso
    omega
  · refine V.bipush aX5_undo_7 (by decide) (by decide) ?_
    refine V.iret aX5_undo_9 rfl (by decide) ?_
    exact PI.of rfl
theorem ok5_undo2 (p : PQ m X Z t0 mb C b h c sv ish tx ln) (hf : 1 ≤ sv) : Ok G kX5_undo 3 [.inr (some X)] sz m 0 0 (fun ret z m' => ret = some (.inl (sv - 1)) ∧ z = sz ∧ ∃ g2, PQ m' X Z t0 mb C ((h (sv - 1)).2.1, g2) h c (sv - 1) ish tx ln) := by
  refine Ok.body [some (.inr (some X))] rfl (Nat.le_of_ble_eq_true rfl) (by decide) ?_
  have hs := p.sv_b
  have hx := p.1.1
  have pl := p.1.2.2.2.2.2.2.2.2.2.2.2
  have q := p.num (sv2 := sv - 1) (ish2 := ish) (ln2 := ln) ⟨by omega, Or.inr rfl, pl.1, pl.2.1⟩
  obtain ⟨M2, hM2⟩ : ∃ M2, M2 = upM m X (obj 5 (xobj X (sv - 1) ish ln)) := ⟨_, rfl⟩
  have e : ExtA X m M2 := fun a ha => by rw [hM2]; exact upM_n ha
  rw [← hM2] at q
  obtain ⟨q0, u1, u2, u3⟩ := id q
  obtain ⟨p1, p2, p3, p4, p5, p6, p7, p8, p9, p10, p11, p12⟩ := id q0
  have us := (p.2.2.2 (sv - 1) (by omega) (by omega)).extA e (by omega)
  have pv := p7 (sv - 1) (by omega) (by omega)
  have pw := p8 (sv - 1) (by omega) (by omega)
  have y : ∀ g2, ExtB (X + 1) M2 (BM M2 (X + 1) (h (sv - 1)).2.1 g2) := fun g2 a _ ha => BM_n ha
  refine V.ald0 aX5_undo_0 ?_
  refine V.getf aX5_undo_1 fl_RX5_121 hx rfl ?_
  refine V.if_ne aX5_undo_4 (tgt := 10) (by decide) (fun c4 => ?_) (fun c4 => ?_)
  · refine V.ald0 aX5_undo_10 ?_
    refine V.dup aX5_undo_11 ?_
    refine V.getf aX5_undo_12 fl_RX5_121 hx rfl ?_
    refine V.iconst aX5_undo_15 (by decide) ?_
    refine V.isub aX5_undo_16 (by omega) ?_
    refine V.putf aX5_undo_17 fl_RX5_121 hx (Nat.le_of_ble_eq_true rfl) rfl rfl ?_
    refine V.mem (m2 := M2) hM2 ?_
    refine V.ald0 aX5_undo_20 ?_
    refine V.getf aX5_undo_21 fl_RX5_12 p1 rfl ?_
    refine V.ald0 aX5_undo_24 ?_
    refine V.getf aX5_undo_25 fl_RX5_16 p1 rfl ?_
    refine V.ald0 aX5_undo_28 ?_
    refine V.getf aX5_undo_29 fl_RX5_121 p1 rfl ?_
    refine V.aald aX5_undo_32 p2 (by omega) (by omega) ?_
    rw [show harr h (sv - 1) = some (h (sv - 1)).1 from if_pos ⟨by omega, by omega⟩]
    refine V.mem (m2 := BM M2 (X + 1) b.1 b.2) p5.1.eq.symm ?_
    refine call_X4_copyFrom aX5_undo_33 gl_RX5_124 (ok_copy4 pv.1 (by omega) pv.2 (by omega) us.2.D us.D4) BM_S (Nat.le_of_ble_eq_true rfl) (by decide) (fun r33 z33 m33 h33 => ?_)
    obtain ⟨rfl, rfl, g2, hg, rfl⟩ := h33
    refine V.ald0 aX5_undo_36 ?_
    refine V.getf aX5_undo_37 fl_RX5_121 ((BM_n (Or.inl (by omega))).trans p1) rfl ?_
    refine V.iret aX5_undo_40 rfl (by decide) ?_
    refine ⟨rfl, rfl, g2, q0.now (y g2) ⟨Blk.of, (pv.2.extB (y g2) (by omega)).gc hg⟩, ⟨(us.extB (y g2) (by omega)).1.gc us.2.N hg, us.2⟩, fun w => (u2 w).extB (y g2) (by omega), fun i i0 i1 => (u3 i i0 i1).extB (y g2) (by omega)⟩
  · exfalso
    omega
end
