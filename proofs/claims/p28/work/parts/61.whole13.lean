-- acts of the whole log (part nine): store
section
variable {G : GX} {sz : Nat} {m m1 mb : Mem} {X Z t0 : Nat} {C D : Int} {b c : BS} {h : Int → Nat × BS} {sv ish ln : Int} {tx : Int → Int}
theorem ok5_store1 {r : Int} (hw : ¬ (0 ≤ r ∧ r ≤ 5)) : Ok G kX5_store 5 [.inr (some X), .inl r] sz m 0 0 (PI (-1) sz m) := by
  refine Ok.body [some (.inr (some X)), some (.inl r)] rfl (Nat.le_of_ble_eq_true rfl) (by decide) ?_
  refine V.ild1 aX5_store_0 ?_
  refine call_X5_isPage aX5_store_1 gl_RX5_27 (ok_isPage5) (Nat.le_of_ble_eq_true rfl) (by decide) (goI ?_)
  refine V.ifb_ne aX5_store_4 (tgt := 9) (by decide) (fun c4 => ?_) (fun c4 => ?_)
  · exfalso
    omega
  · refine V.iconst aX5_store_7 (by decide) ?_
    refine V.iret aX5_store_8 rfl (by decide) ?_
    exact PI.of rfl
theorem ok5_store2 {r j : Int} (p : PQ m X Z t0 mb C b h c sv ish tx ln) (hw : 0 ≤ r ∧ r ≤ 5) (hj : b.1 4 ≤ j ∧ j < b.1 3 ∧ ofE b.1 j 0 = r) : Ok G kX5_store 5 [.inr (some X), .inl r] sz m 0 0 (undone X Z t0 mb C b.1 h c sv ish tx ln (-4) sz) := by
  refine Ok.body [some (.inr (some X)), some (.inl r)] rfl (Nat.le_of_ble_eq_true rfl) (by decide) ?_
  have hs := p.sv_b
  refine V.ild1 aX5_store_0 ?_
  refine call_X5_isPage aX5_store_1 gl_RX5_27 (ok_isPage5) (Nat.le_of_ble_eq_true rfl) (by decide) (goI ?_)
  refine V.ifb_ne aX5_store_4 (tgt := 9) (by decide) (fun c4 => ?_) (fun c4 => ?_)
  · refine V.ald0 aX5_store_9 ?_
    refine V.beg aX5_store_10 gl_RX5_37 p (Nat.le_of_ble_eq_true rfl) (by decide) (fun m2 g2 q1 q2 => ?_)
    have p9 := q1.1.2.2.2.2.2.2.2.2.1
    refine V.ald0 aX5_store_13 ?_
    refine V.ald0 aX5_store_14 ?_
    refine V.getf aX5_store_15 fl_RX5_12 q1.1.1 rfl ?_
    refine V.ild1 aX5_store_18 ?_
    refine V.mem (m2 := BM m2 (X + 1) b.1 b.2) q1.1.2.2.2.2.1.1.eq.symm ?_
    refine call_X4_storePage aX5_store_19 gl_RX5_106 (ok_store4a q1.2.1.2 q1.2.1.1 (by omega) (by omega) hj) (BM_S) (Nat.le_of_ble_eq_true rfl) (by decide) (goI ?_)
    refine V.endF aX5_store_22 gl_RX5_50 q1 (by rw [upI_s]; exact q2) Ext.rf (by decide) (Nat.le_of_ble_eq_true rfl) (by decide) (fun m3 g3 q3 => ?_)
    refine V.iret aX5_store_25 rfl (by decide) ?_
    rw [upI_s] at q3
    exact ⟨rfl, Nat.le_refl _, g3, _, q3, fun i i0 i1 => by rw [upI_n (by omega)]⟩
  · exfalso
    omega
theorem ok5_store3 {r : Int} (p : PQ m X Z t0 mb C b h c sv ish tx ln) (hw : 0 ≤ r ∧ r ≤ 5) (hj : ∀ j, b.1 4 ≤ j → j < b.1 3 → ofE b.1 j 0 ≠ r) : Ok G kX5_store 5 [.inr (some X), .inl r] sz m 0 0 (done X Z t0 mb C (storeF b.1 r) b.1 h c sv ish tx ln (neededMany b.1 - neededMany (storeF b.1 r)) sz) := by
  refine Ok.body [some (.inr (some X)), some (.inl r)] rfl (Nat.le_of_ble_eq_true rfl) (by decide) ?_
  have hs := p.sv_b
  have hn := p.2.1.2.num
  have hr : 0 ≤ r ∧ r < 6 := by omega
  have hnd := needed_store p.2.1.2 hr hj
  have lo : ∀ j, j < 80 ∨ 152 ≤ j → j ≠ 152 + r → j ≠ 158 + r → storeF b.1 r j = b.1 j := fun j g0 g1 g2 => storeF_o hr g0 g1 g2
  refine V.ild1 aX5_store_0 ?_
  refine call_X5_isPage aX5_store_1 gl_RX5_27 (ok_isPage5) (Nat.le_of_ble_eq_true rfl) (by decide) (goI ?_)
  refine V.ifb_ne aX5_store_4 (tgt := 9) (by decide) (fun c4 => ?_) (fun c4 => ?_)
  · refine V.ald0 aX5_store_9 ?_
    refine V.beg aX5_store_10 gl_RX5_37 p (Nat.le_of_ble_eq_true rfl) (by decide) (fun m2 g2 q1 q2 => ?_)
    have p9 := q1.1.2.2.2.2.2.2.2.2.1
    refine V.ald0 aX5_store_13 ?_
    refine V.ald0 aX5_store_14 ?_
    refine V.getf aX5_store_15 fl_RX5_12 q1.1.1 rfl ?_
    refine V.ild1 aX5_store_18 ?_
    refine V.mem (m2 := BM m2 (X + 1) b.1 b.2) q1.1.2.2.2.2.1.1.eq.symm ?_
    refine call_X4_storePage aX5_store_19 gl_RX5_106 (ok_store4b q1.2.1.2 q1.2.1.1 hr (by omega) hj) (BM_S) (Nat.le_of_ble_eq_true rfl) (by decide) (goI ?_)
    have pa := q1.act (m1 := m2) (D := C) Ext.rf (q1.2.1.1.same2 (lo 2 (by omega) (by omega) (by omega)) (lo 3 (by omega) (by omega) (by omega)) (fun j hj => lo j (by omega) (by omega) (by omega))) q1.1.2.2.2.2.1.2 (q1.2.1.2.store hr) (by omega)
    have y1 : ExtB (X + 1) m2 (BM m2 (X + 1) (storeF b.1 r) b.2) := fun a _ h1 => BM_n h1
    refine V.endS aX5_store_22 gl_RX5_50 pa (by rw [upI_s]; exact q2.extB y1 (by omega)) (by omega) (Nat.le_of_ble_eq_true rfl) (by decide) (fun m3 h3 q3 q4 => ?_)
    refine V.iret aX5_store_25 rfl (by decide) ?_
    refine ⟨rfl, Nat.le_refl _, _, h3, q3, fun i i0 i1 => ?_⟩
    rw [q4 i i0 i1, upI_s, recR_up hs i0]
  · exfalso
    omega
end
