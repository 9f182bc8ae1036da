-- acts of the whole log (part one)
section
variable {G : GX} {sz : Nat} {m m1 mb : Mem} {X Z t0 : Nat} {C D : Int} {b c : BS} {h : Int → Nat × BS} {sv ish ln : Int} {tx : Int → Int}
theorem PQ.act {s1 : Int → Int} {g1 : Int → Option Nat} (p : PQ m X Z t0 mb C b h c sv ish tx ln) (x : Ext m m1) (hR : EntsR Z t0 m1 s1 g1) (hS : SlotsR Z m1 g1) (hI : Inv D s1) (hD : C ≤ D ∧ D ≤ 20000) : PQ (BM m1 (X + 1) s1 g1) X Z t0 mb D (s1, g1) h c sv ish tx ln := by
  obtain ⟨p0, u1, u2, u3⟩ := p
  have p9 := p0.2.2.2.2.2.2.2.2.1
  have y : ExtB (X + 1) m (BM m1 (X + 1) s1 g1) := fun a h0 h1 => by rw [BM_n h1]; exact x a h0
  have y1 : ExtB (X + 1) m1 (BM m1 (X + 1) s1 g1) := fun a _ h1 => BM_n h1
  exact ⟨p0.now y ⟨Blk.of, hS.extB y1 (by omega)⟩, ⟨hR.extB y1 (by omega), hI⟩, fun q => ((u2 q).extB y (by omega)).mono hD, fun i i0 i1 => ((u3 i i0 i1).extB y (by omega)).mono hD⟩
theorem PQ.sv_b (p : PQ m X Z t0 mb C b h c sv ish tx ln) : 0 ≤ sv ∧ sv ≤ 4 := p.1.2.2.2.2.2.2.2.2.2.1
theorem recR_up {w : Nat × BS} {s : Int → Int} {i : Int} (hs : 0 ≤ sv ∧ sv ≤ 4) (hi : 0 ≤ i) : recR (upI h sv w) sv s i = recR h sv s i := by
  unfold recR
  by_cases q : sv = 4
  · rw [if_pos q, if_pos q]
    by_cases q3 : i < 3
    · rw [if_pos q3, if_pos q3, upI_n (by omega)]
    · rw [if_neg q3, if_neg q3]
  · rw [if_neg q, if_neg q]
    by_cases q3 : i < sv
    · rw [if_pos q3, if_pos q3, upI_n (by omega)]
    · rw [if_neg q3, if_neg q3]
theorem ok5_flush1 (p : PQ m X Z t0 mb C b h c sv ish tx ln) (hf : b.1 3 = b.1 4) : Ok G kX5_flush 4 [.inr (some X)] sz m 0 0 (undone X Z t0 mb C b.1 h c sv ish tx ln (-5) sz) := by
  refine Ok.body [some (.inr (some X))] rfl (Nat.le_of_ble_eq_true rfl) (by decide) ?_
  have hs := p.sv_b
  refine V.ald0 aX5_flush_0 ?_
  refine V.beg aX5_flush_1 gl_RX5_37 p (Nat.le_of_ble_eq_true rfl) (by decide) (fun m2 g2 q1 q2 => ?_)
  refine V.ald0 aX5_flush_4 ?_
  refine V.ald0 aX5_flush_5 ?_
  refine V.getf aX5_flush_6 fl_RX5_12 q1.1.1 rfl ?_
  refine V.mem (m2 := BM m2 (X + 1) b.1 b.2) q1.1.2.2.2.2.1.1.eq.symm ?_
  refine call_X4_flushAll aX5_flush_9 gl_RX5_103 (ok_flush4 q1.2.1.2.N) (BM_S) (Nat.le_of_ble_eq_true rfl) (by decide) (goI ?_)
  rw [if_pos hf]
  refine V.endF aX5_flush_12 gl_RX5_50 q1 (by rw [upI_s]; exact q2) Ext.rf (by decide) (Nat.le_of_ble_eq_true rfl) (by decide) (fun m3 g3 q3 => ?_)
  refine V.iret aX5_flush_15 rfl (by decide) ?_
  rw [upI_s] at q3
  exact ⟨rfl, Nat.le_refl _, g3, _, q3, fun i i0 i1 => by rw [upI_n (by omega)]⟩
theorem ok5_flush2 (p : PQ m X Z t0 mb C b h c sv ish tx ln) (hf : b.1 3 ≠ b.1 4) : Ok G kX5_flush 4 [.inr (some X)] sz m 0 0 (done X Z t0 mb C (upI b.1 4 (b.1 3)) b.1 h c sv ish tx ln (b.1 3 - b.1 4) sz) := by
  refine Ok.body [some (.inr (some X))] rfl (Nat.le_of_ble_eq_true rfl) (by decide) ?_
  have hs := p.sv_b
  have hn := p.2.1.2.num
  refine V.ald0 aX5_flush_0 ?_
  refine V.beg aX5_flush_1 gl_RX5_37 p (Nat.le_of_ble_eq_true rfl) (by decide) (fun m2 g2 q1 q2 => ?_)
  refine V.ald0 aX5_flush_4 ?_
  refine V.ald0 aX5_flush_5 ?_
  refine V.getf aX5_flush_6 fl_RX5_12 q1.1.1 rfl ?_
  refine V.mem (m2 := BM m2 (X + 1) b.1 b.2) q1.1.2.2.2.2.1.1.eq.symm ?_
  refine call_X4_flushAll aX5_flush_9 gl_RX5_103 (ok_flush4 q1.2.1.2.N) (BM_S) (Nat.le_of_ble_eq_true rfl) (by decide) (goI ?_)
  rw [if_neg hf]
  have p9 := q1.1.2.2.2.2.2.2.2.2.1
  have pa := q1.act (m1 := m2) (D := C) Ext.rf (q1.2.1.1.same2 (upI_n (by decide)) (upI_n (by decide)) (fun j hj => upI_n (by omega))) q1.1.2.2.2.2.1.2 q1.2.1.2.flush (by omega)
  have y1 : ExtB (X + 1) m2 (BM m2 (X + 1) (upI b.1 4 (b.1 3)) b.2) := fun a _ h1 => BM_n h1
  refine V.endS aX5_flush_12 gl_RX5_50 pa (by rw [upI_s]; exact q2.extB y1 (by omega)) (by omega) (Nat.le_of_ble_eq_true rfl) (by decide) (fun m3 h3 q3 q4 => ?_)
  refine V.iret aX5_flush_15 rfl (by decide) ?_
  refine ⟨rfl, Nat.le_refl _, _, h3, q3, fun i i0 i1 => ?_⟩
  rw [q4 i i0 i1, upI_s, recR_up hs i0]
end
