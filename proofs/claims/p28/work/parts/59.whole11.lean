-- acts of the whole log (part seven): room
section
variable {G : GX} {sz : Nat} {m m1 mb : Mem} {X Z t0 : Nat} {C D : Int} {b c : BS} {h : Int → Nat × BS} {sv ish ln : Int} {tx : Int → Int}
theorem ok5_setRoom1 {r : Int} (hw : ¬ (30 ≤ r ∧ r ≤ 300)) : Ok G kX5_setRoom 5 [.inr (some X), .inl r] sz m 0 0 (PI (-2) sz m) := by
  refine Ok.body [some (.inr (some X)), some (.inl r)] rfl (Nat.le_of_ble_eq_true rfl) (by decide) ?_
  refine V.ild1 aX5_setRoom_0 ?_
  refine V.bipush aX5_setRoom_1 (by decide) (by decide) ?_
  refine V.icmp_lt aX5_setRoom_3 (tgt := 13) (by decide) (fun c3 => ?_) (fun c3 => ?_)
  · refine V.bipush aX5_setRoom_13 (by decide) (by decide) ?_
    refine V.iret aX5_setRoom_15 rfl (by decide) ?_
    exact PI.of rfl
  · refine V.ild1 aX5_setRoom_6 ?_
    refine V.sipush aX5_setRoom_7 (by decide) (by decide) ?_
    refine V.icmp_le aX5_setRoom_10 (tgt := 16) (by decide) (fun c10 => ?_) (fun c10 => ?_)
    · exfalso
      omega
    · refine V.bipush aX5_setRoom_13 (by decide) (by decide) ?_
      refine V.iret aX5_setRoom_15 rfl (by decide) ?_
      exact PI.of rfl
theorem ok5_setRoom2 {r : Int} (p : PQ m X Z t0 mb C b h c sv ish tx ln) (hw : 30 ≤ r ∧ r ≤ 300) {z : Int} (hz : z = if r < usedW b.1 (droppable b.1 r) then -4 else -5) (hf : r < usedW b.1 (droppable b.1 r) ∨ b.1 1 = r) : Ok G kX5_setRoom 5 [.inr (some X), .inl r] sz m 0 0 (undone X Z t0 mb C b.1 h c sv ish tx ln z sz) := by
  refine Ok.body [some (.inr (some X)), some (.inl r)] rfl (Nat.le_of_ble_eq_true rfl) (by decide) ?_
  have hs := p.sv_b
  refine V.ild1 aX5_setRoom_0 ?_
  refine V.bipush aX5_setRoom_1 (by decide) (by decide) ?_
  refine V.icmp_lt aX5_setRoom_3 (tgt := 13) (by decide) (fun c3 => ?_) (fun c3 => ?_)
  · exfalso
    omega
  · refine V.ild1 aX5_setRoom_6 ?_
    refine V.sipush aX5_setRoom_7 (by decide) (by decide) ?_
    refine V.icmp_le aX5_setRoom_10 (tgt := 16) (by decide) (fun c10 => ?_) (fun c10 => ?_)
    · refine V.ald0 aX5_setRoom_16 ?_
      refine V.beg aX5_setRoom_17 gl_RX5_37 p (Nat.le_of_ble_eq_true rfl) (by decide) (fun m2 g2 q1 q2 => ?_)
      have p9 := q1.1.2.2.2.2.2.2.2.2.1
      refine V.ald0 aX5_setRoom_20 ?_
      refine V.ald0 aX5_setRoom_21 ?_
      refine V.getf aX5_setRoom_22 fl_RX5_12 q1.1.1 rfl ?_
      refine V.ild1 aX5_setRoom_25 ?_
      refine V.mem (m2 := BM m2 (X + 1) b.1 b.2) q1.1.2.2.2.2.1.1.eq.symm ?_
      refine call_X4_changeRoom aX5_setRoom_26 gl_RX5_100 (ok_room4 q1.2.1.2 q1.2.1.1 q1.1.2.2.2.2.1.2 (by omega) hw) (BM_S) (Nat.le_of_ble_eq_true rfl) (by decide) (fun r26 z26 m26 h26 => ?_)
      by_cases c0 : r < usedW b.1 (droppable b.1 r)
      · rw [if_pos c0] at h26 hz
        obtain ⟨rfl, rfl, s', g', rfl⟩ := h26
        refine V.endF aX5_setRoom_29 gl_RX5_50 q1 (by rw [upI_s]; exact q2) Ext.rf (by decide) (Nat.le_of_ble_eq_true rfl) (by decide) (fun m3 g3 q3 => ?_)
        refine V.iret aX5_setRoom_32 rfl (by decide) ?_
        rw [upI_s] at q3
        exact ⟨by rw [hz], Nat.le_refl _, g3, _, q3, fun i i0 i1 => by rw [upI_n (by omega)]⟩
      · rw [if_neg c0] at h26 hz
        rw [if_pos (hf.resolve_left c0)] at h26
        obtain ⟨rfl, rfl, g', rfl, -, -⟩ := h26
        refine V.endF aX5_setRoom_29 gl_RX5_50 q1 (by rw [upI_s]; exact q2) Ext.rf (by decide) (Nat.le_of_ble_eq_true rfl) (by decide) (fun m3 g3 q3 => ?_)
        refine V.iret aX5_setRoom_32 rfl (by decide) ?_
        rw [upI_s] at q3
        exact ⟨by rw [hz], Nat.le_refl _, g3, _, q3, fun i i0 i1 => by rw [upI_n (by omega)]⟩
      skip
    · exfalso
      omega
theorem ok5_setRoom3 {r : Int} (p : PQ m X Z t0 mb C b h c sv ish tx ln) (hw : 30 ≤ r ∧ r ≤ 300) (hf : usedW b.1 (droppable b.1 r) ≤ r) (h1 : b.1 1 ≠ r) : Ok G kX5_setRoom 5 [.inr (some X), .inl r] sz m 0 0 (done X Z t0 mb C (upI (dropsF b.1 (droppable b.1 r)) 1 r) b.1 h c sv ish tx ln (b.1 1) sz) := by
  refine Ok.body [some (.inr (some X)), some (.inl r)] rfl (Nat.le_of_ble_eq_true rfl) (by decide) ?_
  have hs := p.sv_b
  have hn := p.2.1.2.num
  have hd := droppable_b (most := r) p.2.1.2.N
  refine V.ild1 aX5_setRoom_0 ?_
  refine V.bipush aX5_setRoom_1 (by decide) (by decide) ?_
  refine V.icmp_lt aX5_setRoom_3 (tgt := 13) (by decide) (fun c3 => ?_) (fun c3 => ?_)
  · exfalso
    omega
  · refine V.ild1 aX5_setRoom_6 ?_
    refine V.sipush aX5_setRoom_7 (by decide) (by decide) ?_
    refine V.icmp_le aX5_setRoom_10 (tgt := 16) (by decide) (fun c10 => ?_) (fun c10 => ?_)
    · refine V.ald0 aX5_setRoom_16 ?_
      refine V.beg aX5_setRoom_17 gl_RX5_37 p (Nat.le_of_ble_eq_true rfl) (by decide) (fun m2 g2 q1 q2 => ?_)
      have p9 := q1.1.2.2.2.2.2.2.2.2.1
      refine V.ald0 aX5_setRoom_20 ?_
      refine V.ald0 aX5_setRoom_21 ?_
      refine V.getf aX5_setRoom_22 fl_RX5_12 q1.1.1 rfl ?_
      refine V.ild1 aX5_setRoom_25 ?_
      refine V.mem (m2 := BM m2 (X + 1) b.1 b.2) q1.1.2.2.2.2.1.1.eq.symm ?_
      refine call_X4_changeRoom aX5_setRoom_26 gl_RX5_100 (ok_room4 q1.2.1.2 q1.2.1.1 q1.1.2.2.2.2.1.2 (by omega) hw) (BM_S) (Nat.le_of_ble_eq_true rfl) (by decide) (fun r26 z26 m26 h26 => ?_)
      rw [if_neg (show ¬ r < usedW b.1 (droppable b.1 r) by omega), if_neg h1] at h26
      obtain ⟨rfl, rfl, g1, rfl, tR, tS⟩ := h26
      have pa := q1.act (m1 := m2) (D := C) Ext.rf tR tS (q1.2.1.2.dropR hd.1 hd.2 hw hf) (by omega)
      have y1 : ExtB (X + 1) m2 (BM m2 (X + 1) (upI (dropsF b.1 (droppable b.1 r)) 1 r) g1) := fun a _ h1 => BM_n h1
      refine V.endS aX5_setRoom_29 gl_RX5_50 pa (by rw [upI_s]; exact q2.extB y1 (by omega)) (by omega) (Nat.le_of_ble_eq_true rfl) (by decide) (fun m3 h3 q3 q4 => ?_)
      refine V.iret aX5_setRoom_32 rfl (by decide) ?_
      refine ⟨rfl, Nat.le_refl _, _, h3, q3, fun i i0 i1 => ?_⟩
      rw [q4 i i0 i1, upI_s, recR_up hs i0]
    · exfalso
      omega
end
