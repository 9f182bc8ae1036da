-- acts of the whole log (part eleven): the snapshot
theorem PQ0.snap {m m1 mb : Mem} {X Z t0 : Nat} {b b1 : BS} {h : Int → Nat × BS} {c : BS} {sv ish : Int} {tx : Int → Int} {ln : Int} (p : PQ0 m X Z t0 mb b h c sv ish tx ln) (x : ExtB (X + 134) m m1) (hb : BQ Z m1 (X + 134) b1) : PQ0 m1 X Z t0 mb b h b1 sv ish tx ln := by
  obtain ⟨p1, p2, p3, ⟨h0, p4⟩, p5, p6, p7, p8, p9, p10⟩ := p
  refine ⟨?_, ?_, ?_, ⟨h0, ?_⟩, p5.extB x (by omega) (by omega), hb, fun i i0 i1 => ?_, p8, p9, p10.1, p10.2.1, p10.2.2.1, p10.2.2.2.1, p10.2.2.2.2.extB x (by omega)⟩
  · rw [x _ (by rw [p1]; exact obj_nu) (by omega)]; exact p1
  · rw [x _ (by rw [p2]; exact rar_nu) (by omega)]; exact p2
  · rw [x _ (by rw [p3]; exact car_nu) (by omega)]; exact p3
  · rw [x _ (by rw [p4]; exact iar_nu) (by omega)]; exact p4
  · have := (p8 i i0 i1).1
    exact (p7 i i0 i1).extB x (by omega) (by omega)
section
variable {G : GX} {sz : Nat} {m m1 mb : Mem} {X Z t0 : Nat} {C D : Int} {b c : BS} {h : Int → Nat × BS} {sv ish ln : Int} {tx : Int → Int}
theorem ok5_keep (p : PQ m X Z t0 mb C b h c sv ish tx ln) : Ok G kX5_keep 3 [.inr (some X)] sz m 0 0 (fun ret z m' => ret = some (.inl (b.1 3)) ∧ z = sz ∧ ∃ g2, PQ m' X Z t0 mb C b h (b.1, g2) sv 1 tx ln) := by
  refine Ok.body [some (.inr (some X))] rfl (Nat.le_of_ble_eq_true rfl) (by decide) ?_
  obtain ⟨p0, u1, u2, u3⟩ := id p
  obtain ⟨p1, p2, p3, p4, p5, p6, p7, p8, p9, p10, p11, p12⟩ := id p0
  have y : ∀ g2, ExtB (X + 134) m (BM m (X + 134) b.1 g2) := fun g2 a _ ha => BM_n ha
  refine V.ald0 aX5_keep_0 ?_
  refine V.getf aX5_keep_1 fl_RX5_20 p1 rfl ?_
  refine V.ald0 aX5_keep_4 ?_
  refine V.getf aX5_keep_5 fl_RX5_12 p1 rfl ?_
  refine V.mem (m2 := BM m (X + 134) c.1 c.2) p6.1.eq.symm ?_
  refine call_X4_copyFrom aX5_keep_8 gl_RX5_124 (ok_copy4 p5.1 (by omega) p5.2 (by omega) u1.2.D u1.D4) BM_S (Nat.le_of_ble_eq_true rfl) (by decide) (fun r8 z8 m8 h8 => ?_)
  obtain ⟨rfl, rfl, g2, hg, rfl⟩ := h8
  have us2 := u1.extB (y g2) (by omega)
  have q0 := p0.snap (y g2) (b1 := (b.1, g2)) ⟨Blk.of, (p5.2.extB (y g2) (by omega)).gc hg⟩
  have qn := q0.num (sv2 := sv) (ish2 := 1) (ln2 := ln) ⟨p10, Or.inr rfl, p12.1, p12.2.1⟩
  have e : ExtA X (BM m (X + 134) b.1 g2) (upM (BM m (X + 134) b.1 g2) X (obj 5 (xobj X sv 1 ln))) := fun a ha => upM_n ha
  refine V.ald0 aX5_keep_11 ?_
  refine V.iconst aX5_keep_12 (by decide) ?_
  refine V.putf aX5_keep_13 fl_RX5_128 q0.1 (Nat.le_of_ble_eq_true rfl) rfl rfl ?_
  refine V.mem (m2 := upM (BM m (X + 134) b.1 g2) X (obj 5 (xobj X sv 1 ln))) rfl ?_
  refine V.ald0 aX5_keep_16 ?_
  refine V.getf aX5_keep_17 fl_RX5_12 qn.1 rfl ?_
  refine V.mem (m2 := BM (upM (BM m (X + 134) b.1 g2) X (obj 5 (xobj X sv 1 ln))) (X + 1) b.1 b.2) qn.2.2.2.2.1.1.eq.symm ?_
  refine U.gfS aX5_keep_20 fl_RX5_58 rfl ?_
  refine call_X1_next aX5_keep_23 gl_RX5_62 (ok_next u1.2.N) (BM_L) (Nat.le_of_ble_eq_true rfl) (by decide) (goI ?_)
  refine V.iret aX5_keep_26 rfl (by decide) ?_
  have ub : Use Z t0 (upM (BM m (X + 134) b.1 g2) X (obj 5 (xobj X sv 1 ln))) C b := us2.extA e (by omega)
  refine ⟨rfl, rfl, g2, ?_⟩
  rw [← qn.2.2.2.2.1.1.eq]
  exact ⟨qn, ub, fun _ => ⟨ub.1.gc u1.2.N hg, u1.2⟩, fun i i0 i1 => ((u3 i i0 i1).extB (y g2) (by omega)).extA e (by omega)⟩
theorem ok5_restore1 (p : PQ m X Z t0 mb C b h c sv ish tx ln) (hf : ish = 0) : Ok G kX5_restore 4 [.inr (some X)] sz m 0 0 (PI (-5) sz m) := by
  refine Ok.body [some (.inr (some X))] rfl (Nat.le_of_ble_eq_true rfl) (by decide) ?_
  refine V.ald0 aX5_restore_0 ?_
  refine V.getf aX5_restore_1 fl_RX5_128 p.1.1 rfl ?_
  refine V.if_ne aX5_restore_4 (tgt := 10) (by decide) (fun c4 => ?_) (fun c4 => ?_)
  · exact absurd hf c4
  · refine V.bipush aX5_restore_7 (by decide) (by decide) ?_
    refine V.iret aX5_restore_9 rfl (by decide) ?_
    exact PI.of rfl
theorem ok5_restore2 (p : PQ m X Z t0 mb C b h c sv ish tx ln) (hf : ish ≠ 0) : Ok G kX5_restore 4 [.inr (some X)] sz m 0 0 (done X Z t0 mb C c.1 b.1 h c sv ish tx ln (c.1 3) sz) := by
  refine Ok.body [some (.inr (some X))] rfl (Nat.le_of_ble_eq_true rfl) (by decide) ?_
  have hs := p.sv_b
  have hn := (p.2.2.1 hf).2.num
  have hcb := p.2.1.2.num
  refine V.ald0 aX5_restore_0 ?_
  refine V.getf aX5_restore_1 fl_RX5_128 p.1.1 rfl ?_
  refine V.if_ne aX5_restore_4 (tgt := 10) (by decide) (fun c4 => ?_) (fun c4 => ?_)
  · refine V.ald0 aX5_restore_10 ?_
    refine V.beg aX5_restore_11 gl_RX5_37 p (Nat.le_of_ble_eq_true rfl) (by decide) (fun m2 g2 q1 q2 => ?_)
    have p9 := q1.1.2.2.2.2.2.2.2.2.1
    have uc := q1.2.2.1 hf
    have bc := q1.1.2.2.2.2.2.1
    refine V.ald0 aX5_restore_14 ?_
    refine V.getf aX5_restore_15 fl_RX5_12 q1.1.1 rfl ?_
    refine V.ald0 aX5_restore_18 ?_
    refine V.getf aX5_restore_19 fl_RX5_20 q1.1.1 rfl ?_
    refine V.mem (m2 := BM m2 (X + 1) b.1 b.2) q1.1.2.2.2.2.1.1.eq.symm ?_
    refine call_X4_copyFrom aX5_restore_22 gl_RX5_124 (ok_copy4 bc.1 (by omega) bc.2 (by omega) uc.2.D uc.D4) BM_S (Nat.le_of_ble_eq_true rfl) (by decide) (fun r22 z22 m22 h22 => ?_)
    obtain ⟨rfl, rfl, g3, hg, rfl⟩ := h22
    have pa := q1.act (m1 := m2) (s1 := c.1) (g1 := g3) (D := C) Ext.rf (uc.1.gc uc.2.N hg) (bc.2.gc hg) uc.2 (by omega)
    have y1 : ExtB (X + 1) m2 (BM m2 (X + 1) c.1 g3) := fun a _ h1 => BM_n h1
    refine V.ald0 aX5_restore_25 ?_
    refine V.ald0 aX5_restore_26 ?_
    refine V.getf aX5_restore_27 fl_RX5_12 pa.1.1 rfl ?_
    refine U.gfS aX5_restore_30 fl_RX5_58 rfl ?_
    refine call_X1_next aX5_restore_33 gl_RX5_62 (ok_next uc.2.N) (BM_L) (Nat.le_of_ble_eq_true rfl) (by decide) (goI ?_)
    refine V.endS aX5_restore_36 gl_RX5_50 pa (by rw [upI_s]; exact q2.extB y1 (by omega)) (by omega) (Nat.le_of_ble_eq_true rfl) (by decide) (fun m3 h3 q3 q4 => ?_)
    refine V.iret aX5_restore_39 rfl (by decide) ?_
    refine ⟨rfl, Nat.le_refl _, _, h3, q3, fun i i0 i1 => ?_⟩
    rw [q4 i i0 i1, upI_s, recR_up hs i0]
  · exact absurd c4 hf
end
