-- acts of the whole log (part two)
section
variable {G : GX} {sz : Nat} {m m1 mb : Mem} {X Z t0 : Nat} {C D : Int} {b c : BS} {h : Int → Nat × BS} {sv ish ln : Int} {tx : Int → Int}
theorem ok5_setWay1 {w : Int} (hw : ¬ (0 ≤ w ∧ w ≤ 2)) : Ok G kX5_setWay 4 [.inr (some X), .inl w] sz m 0 0 (PI (-2) sz m) := by
  refine Ok.body [some (.inr (some X)), some (.inl w)] rfl (Nat.le_of_ble_eq_true rfl) (by decide) ?_
  refine V.ild1 aX5_setWay_0 ?_
  refine V.if_lt aX5_setWay_1 (tgt := 9) (by decide) (fun c1 => ?_) (fun c1 => ?_)
  · refine V.bipush aX5_setWay_9 (by decide) (by decide) ?_
    refine V.iret aX5_setWay_11 rfl (by decide) ?_
    exact PI.of rfl
  · refine V.ild1 aX5_setWay_4 ?_
    refine V.iconst aX5_setWay_5 (by decide) ?_
    refine V.icmp_le aX5_setWay_6 (tgt := 12) (by decide) (fun c6 => ?_) (fun c6 => ?_)
    · exfalso
      omega
    · refine V.bipush aX5_setWay_9 (by decide) (by decide) ?_
      refine V.iret aX5_setWay_11 rfl (by decide) ?_
      exact PI.of rfl
theorem ok5_setWay2 {w : Int} (p : PQ m X Z t0 mb C b h c sv ish tx ln) (hw : 0 ≤ w ∧ w ≤ 2) (hf : b.1 0 = w) : Ok G kX5_setWay 4 [.inr (some X), .inl w] sz m 0 0 (undone X Z t0 mb C b.1 h c sv ish tx ln (-5) sz) := by
  refine Ok.body [some (.inr (some X)), some (.inl w)] rfl (Nat.le_of_ble_eq_true rfl) (by decide) ?_
  have hs := p.sv_b
  refine V.ild1 aX5_setWay_0 ?_
  refine V.if_lt aX5_setWay_1 (tgt := 9) (by decide) (fun c1 => ?_) (fun c1 => ?_)
  · exfalso
    omega
  · refine V.ild1 aX5_setWay_4 ?_
    refine V.iconst aX5_setWay_5 (by decide) ?_
    refine V.icmp_le aX5_setWay_6 (tgt := 12) (by decide) (fun c6 => ?_) (fun c6 => ?_)
    · refine V.ald0 aX5_setWay_12 ?_
      refine V.beg aX5_setWay_13 gl_RX5_37 p (Nat.le_of_ble_eq_true rfl) (by decide) (fun m2 g2 q1 q2 => ?_)
      refine V.ald0 aX5_setWay_16 ?_
      refine V.ald0 aX5_setWay_17 ?_
      refine V.getf aX5_setWay_18 fl_RX5_12 q1.1.1 rfl ?_
      refine V.ild1 aX5_setWay_21 ?_
      refine V.mem (m2 := BM m2 (X + 1) b.1 b.2) q1.1.2.2.2.2.1.1.eq.symm ?_
      refine call_X4_changeWay aX5_setWay_22 gl_RX5_97 (ok_way4) (BM_S) (Nat.le_of_ble_eq_true rfl) (by decide) (goI ?_)
      rw [if_pos hf]
      refine V.endF aX5_setWay_25 gl_RX5_50 q1 (by rw [upI_s]; exact q2) Ext.rf (by decide) (Nat.le_of_ble_eq_true rfl) (by decide) (fun m3 g3 q3 => ?_)
      refine V.iret aX5_setWay_28 rfl (by decide) ?_
      rw [upI_s] at q3
      exact ⟨rfl, Nat.le_refl _, g3, _, q3, fun i i0 i1 => by rw [upI_n (by omega)]⟩
    · exfalso
      omega
theorem ok5_setWay3 {w : Int} (p : PQ m X Z t0 mb C b h c sv ish tx ln) (hw : 0 ≤ w ∧ w ≤ 2) (hf : b.1 0 ≠ w) : Ok G kX5_setWay 4 [.inr (some X), .inl w] sz m 0 0 (done X Z t0 mb C (upI b.1 0 w) b.1 h c sv ish tx ln (b.1 0) sz) := by
  refine Ok.body [some (.inr (some X)), some (.inl w)] rfl (Nat.le_of_ble_eq_true rfl) (by decide) ?_
  have hs := p.sv_b
  have hn := p.2.1.2.num
  refine V.ild1 aX5_setWay_0 ?_
  refine V.if_lt aX5_setWay_1 (tgt := 9) (by decide) (fun c1 => ?_) (fun c1 => ?_)
  · exfalso
    omega
  · refine V.ild1 aX5_setWay_4 ?_
    refine V.iconst aX5_setWay_5 (by decide) ?_
    refine V.icmp_le aX5_setWay_6 (tgt := 12) (by decide) (fun c6 => ?_) (fun c6 => ?_)
    · refine V.ald0 aX5_setWay_12 ?_
      refine V.beg aX5_setWay_13 gl_RX5_37 p (Nat.le_of_ble_eq_true rfl) (by decide) (fun m2 g2 q1 q2 => ?_)
      refine V.ald0 aX5_setWay_16 ?_
      refine V.ald0 aX5_setWay_17 ?_
      refine V.getf aX5_setWay_18 fl_RX5_12 q1.1.1 rfl ?_
      refine V.ild1 aX5_setWay_21 ?_
      refine V.mem (m2 := BM m2 (X + 1) b.1 b.2) q1.1.2.2.2.2.1.1.eq.symm ?_
      refine call_X4_changeWay aX5_setWay_22 gl_RX5_97 (ok_way4) (BM_S) (Nat.le_of_ble_eq_true rfl) (by decide) (goI ?_)
      rw [if_neg hf]
      have p9 := q1.1.2.2.2.2.2.2.2.2.1
      have pa := q1.act (m1 := m2) (D := C) Ext.rf (q1.2.1.1.same2 (upI_n (by decide)) (upI_n (by decide)) (fun j hj => upI_n (by omega))) q1.1.2.2.2.2.1.2 (q1.2.1.2.way hw) (by omega)
      have y1 : ExtB (X + 1) m2 (BM m2 (X + 1) (upI b.1 0 w) b.2) := fun a _ h1 => BM_n h1
      refine V.endS aX5_setWay_25 gl_RX5_50 pa (by rw [upI_s]; exact q2.extB y1 (by omega)) (by omega) (Nat.le_of_ble_eq_true rfl) (by decide) (fun m3 h3 q3 q4 => ?_)
      refine V.iret aX5_setWay_28 rfl (by decide) ?_
      refine ⟨rfl, Nat.le_refl _, _, h3, q3, fun i i0 i1 => ?_⟩
      rw [q4 i i0 i1, upI_s, recR_up hs i0]
    · exfalso
      omega
end
