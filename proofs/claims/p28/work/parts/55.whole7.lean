-- acts of the whole log (part three)
section
variable {G : GX} {sz : Nat} {m m1 mb : Mem} {X Z t0 : Nat} {C D : Int} {b c : BS} {h : Int → Nat × BS} {sv ish ln : Int} {tx : Int → Int}
theorem ok5_trim1 (p : PQ m X Z t0 mb C b h c sv ish tx ln) (hf : droppable b.1 0 = 0) : Ok G kX5_trim 4 [.inr (some X)] sz m 0 0 (undone X Z t0 mb C b.1 h c sv ish tx ln (-5) sz) := by
  refine Ok.body [some (.inr (some X)), none] rfl (Nat.le_of_ble_eq_true rfl) (by decide) ?_
  have hs := p.sv_b
  refine V.ald0 aX5_trim_0 ?_
  refine V.beg aX5_trim_1 gl_RX5_37 p (Nat.le_of_ble_eq_true rfl) (by decide) (fun m2 g2 q1 q2 => ?_)
  have p9 := q1.1.2.2.2.2.2.2.2.2.1
  refine V.ald0 aX5_trim_4 ?_
  refine V.getf aX5_trim_5 fl_RX5_12 q1.1.1 rfl ?_
  refine V.iconst aX5_trim_8 (by decide) ?_
  refine V.mem (m2 := BM m2 (X + 1) b.1 b.2) q1.1.2.2.2.2.1.1.eq.symm ?_
  refine call_X4_dropDownTo aX5_trim_9 gl_RX5_109 (ok_dropDown q1.2.1.2 q1.2.1.1 q1.1.2.2.2.2.1.2 (by omega) (by decide)) (BM_S) (Nat.le_of_ble_eq_true rfl) (by decide) (fun r9 z9 m9 h9 => ?_)
  obtain ⟨rfl, rfl, g1, rfl, tR, tS⟩ := h9
  refine V.ist1 aX5_trim_12 ?_
  refine V.ald0 aX5_trim_13 ?_
  refine V.ild1 aX5_trim_14 ?_
  refine V.if_ne aX5_trim_15 (tgt := 23) (by decide) (fun c15 => ?_) (fun c15 => ?_)
  · exfalso
    omega
  · refine V.bipush aX5_trim_18 (by decide) (by decide) ?_
    refine V.goto aX5_trim_20 (tgt := 24) (by decide) ?_
    refine V.endF aX5_trim_24 gl_RX5_50 q1 (by rw [upI_s]; exact q2) Ext.rf (by decide) (Nat.le_of_ble_eq_true rfl) (by decide) (fun m3 g3 q3 => ?_)
    refine V.iret aX5_trim_27 rfl (by decide) ?_
    rw [upI_s] at q3
    exact ⟨rfl, Nat.le_refl _, g3, _, q3, fun i i0 i1 => by rw [upI_n (by omega)]⟩
theorem ok5_trim2 (p : PQ m X Z t0 mb C b h c sv ish tx ln) (hf : droppable b.1 0 ≠ 0) : Ok G kX5_trim 4 [.inr (some X)] sz m 0 0 (done X Z t0 mb C (dropsF b.1 (droppable b.1 0)) b.1 h c sv ish tx ln (droppable b.1 0) sz) := by
  refine Ok.body [some (.inr (some X)), none] rfl (Nat.le_of_ble_eq_true rfl) (by decide) ?_
  have hs := p.sv_b
  have hn := p.2.1.2.num
  have hd := droppable_b (most := 0) p.2.1.2.N
  refine V.ald0 aX5_trim_0 ?_
  refine V.beg aX5_trim_1 gl_RX5_37 p (Nat.le_of_ble_eq_true rfl) (by decide) (fun m2 g2 q1 q2 => ?_)
  have p9 := q1.1.2.2.2.2.2.2.2.2.1
  refine V.ald0 aX5_trim_4 ?_
  refine V.getf aX5_trim_5 fl_RX5_12 q1.1.1 rfl ?_
  refine V.iconst aX5_trim_8 (by decide) ?_
  refine V.mem (m2 := BM m2 (X + 1) b.1 b.2) q1.1.2.2.2.2.1.1.eq.symm ?_
  refine call_X4_dropDownTo aX5_trim_9 gl_RX5_109 (ok_dropDown q1.2.1.2 q1.2.1.1 q1.1.2.2.2.2.1.2 (by omega) (by decide)) (BM_S) (Nat.le_of_ble_eq_true rfl) (by decide) (fun r9 z9 m9 h9 => ?_)
  obtain ⟨rfl, rfl, g1, rfl, tR, tS⟩ := h9
  have pa := q1.act (m1 := m2) (D := C) Ext.rf tR tS (q1.2.1.2.drops hd.1 hd.2) (by omega)
  have y1 : ExtB (X + 1) m2 (BM m2 (X + 1) (dropsF b.1 (droppable b.1 0)) g1) := fun a _ h1 => BM_n h1
  refine V.ist1 aX5_trim_12 ?_
  refine V.ald0 aX5_trim_13 ?_
  refine V.ild1 aX5_trim_14 ?_
  refine V.if_ne aX5_trim_15 (tgt := 23) (by decide) (fun c15 => ?_) (fun c15 => ?_)
  · refine V.ild1 aX5_trim_23 ?_
    refine V.endS aX5_trim_24 gl_RX5_50 pa (by rw [upI_s]; exact q2.extB y1 (by omega)) (by omega) (Nat.le_of_ble_eq_true rfl) (by decide) (fun m3 h3 q3 q4 => ?_)
    refine V.iret aX5_trim_27 rfl (by decide) ?_
    refine ⟨rfl, Nat.le_refl _, _, h3, q3, fun i i0 i1 => ?_⟩
    rw [q4 i i0 i1, upI_s, recR_up hs i0]
  · exfalso
    omega
theorem ok5_crash (cl bf : Int → Int) (p : PQ m X Z t0 mb C b h c sv ish tx ln) (hC : C + 1 ≤ 20000) : Ok G kX5_crash 5 [.inr (some X)] sz m 0 0 (done X Z t0 mb (C + 1) (crashF b.1 cl bf) b.1 h c sv ish tx ln (b.1 3 - b.1 4) sz) := by
  refine Ok.body [some (.inr (some X))] rfl (Nat.le_of_ble_eq_true rfl) (by decide) ?_
  have hs := p.sv_b
  have hn := p.2.1.2.num
  have hcr := (crQ_ok cl bf p.2.1.2 6 (by decide) (by decide)).2.2.2.2
  have ce : ∀ j, j ≠ 7 → j < 8 ∨ 164 ≤ j → crashF b.1 cl bf j = upI b.1 3 (b.1 4) j := fun j hj hk => by
    rw [← hcr j (by omega)]
    exact upI_n hj
  refine V.ald0 aX5_crash_0 ?_
  refine V.beg aX5_crash_1 gl_RX5_37 p (Nat.le_of_ble_eq_true rfl) (by decide) (fun m2 g2 q1 q2 => ?_)
  have p9 := q1.1.2.2.2.2.2.2.2.2.1
  refine V.ald0 aX5_crash_4 ?_
  refine V.ald0 aX5_crash_5 ?_
  refine V.getf aX5_crash_6 fl_RX5_12 q1.1.1 rfl ?_
  refine V.mem (m2 := BM m2 (X + 1) b.1 b.2) q1.1.2.2.2.2.1.1.eq.symm ?_
  refine call_X4_breakDown aX5_crash_9 gl_RX5_118 (ok_break cl bf q1.2.1.2 q1.2.1.1 (by omega) (by omega)) (BM_S) (Nat.le_of_ble_eq_true rfl) (by decide) (goI ?_)
  have pa := q1.act (m1 := m2) (D := C + 1) Ext.rf (q1.2.1.1.cut q1.2.1.2.N (by rw [ce 2 (by decide) (by decide)]; exact upI_n (by decide)) (by rw [ce 3 (by decide) (by decide)]; exact upI_s) (fun j hj => by rw [ce j (by omega) (by omega)]; exact upI_n (by omega))) q1.1.2.2.2.2.1.2 (q1.2.1.2.crash cl bf hC) (by omega)
  have y1 : ExtB (X + 1) m2 (BM m2 (X + 1) (crashF b.1 cl bf) b.2) := fun a _ h1 => BM_n h1
  refine V.endS aX5_crash_12 gl_RX5_50 pa (by rw [upI_s]; exact (q2.extB y1 (by omega)).mono (by omega)) (by omega) (Nat.le_of_ble_eq_true rfl) (by decide) (fun m3 h3 q3 q4 => ?_)
  refine V.iret aX5_crash_15 rfl (by decide) ?_
  refine ⟨rfl, Nat.le_refl _, _, h3, q3, fun i i0 i1 => ?_⟩
  rw [q4 i i0 i1, upI_s, recR_up hs i0]
end
