-- what the whole log tells (part one): cells
section
variable {G : GX} {sz : Nat} {m m1 mb : Mem} {X Z t0 : Nat} {C D : Int} {b c : BS} {h : Int → Nat × BS} {sv ish ln : Int} {tx : Int → Int}
theorem ok5_cell1 {p e : Int} (hw : ¬ (0 ≤ p ∧ p ≤ 5 ∧ 0 ≤ e ∧ e ≤ 11)) : Ok G kX5_cell 1 [.inr (some X), .inl p, .inl e] sz m 0 0 (PI (-1) sz m) := by
  refine Ok.body [some (.inr (some X)), some (.inl p), some (.inl e)] rfl (Nat.le_of_ble_eq_true rfl) (by decide) ?_
  refine V.ild1 aX5_cell_0 ?_
  refine call_X5_isPage aX5_cell_1 gl_RX5_27 (ok_isPage5) (Nat.le_of_ble_eq_true rfl) (by decide) (goI ?_)
  refine V.ifb_eq aX5_cell_4 (tgt := 31) (by decide) (fun c4 => ?_) (fun c4 => ?_)
  · refine V.iconst aX5_cell_31 (by decide) ?_
    refine V.iret aX5_cell_32 rfl (by decide) ?_
    exact PI.of rfl
  · refine V.ild2 aX5_cell_7 ?_
    refine call_X5_isCell aX5_cell_8 gl_RX5_31 (ok_isCell5) (Nat.le_of_ble_eq_true rfl) (by decide) (goI ?_)
    refine V.ifb_eq aX5_cell_11 (tgt := 31) (by decide) (fun c11 => ?_) (fun c11 => ?_)
    · refine V.iconst aX5_cell_31 (by decide) ?_
      refine V.iret aX5_cell_32 rfl (by decide) ?_
      exact PI.of rfl
    · exfalso
      omega
theorem ok5_cell2 {pg e : Int} (p : PQ m X Z t0 mb C b h c sv ish tx ln) (hw : 0 ≤ pg ∧ pg ≤ 5 ∧ 0 ≤ e ∧ e ≤ 11) : Ok G kX5_cell 1 [.inr (some X), .inl pg, .inl e] sz m 0 0 (PI (b.1 (8 + 12 * pg + e)) sz m) := by
  refine Ok.body [some (.inr (some X)), some (.inl pg), some (.inl e)] rfl (Nat.le_of_ble_eq_true rfl) (by decide) ?_
  have eb := p.1.2.2.2.2.1.1.eq
  refine V.ild1 aX5_cell_0 ?_
  refine call_X5_isPage aX5_cell_1 gl_RX5_27 (ok_isPage5) (Nat.le_of_ble_eq_true rfl) (by decide) (goI ?_)
  refine V.ifb_eq aX5_cell_4 (tgt := 31) (by decide) (fun c4 => ?_) (fun c4 => ?_)
  · exfalso
    omega
  · refine V.ild2 aX5_cell_7 ?_
    refine call_X5_isCell aX5_cell_8 gl_RX5_31 (ok_isCell5) (Nat.le_of_ble_eq_true rfl) (by decide) (goI ?_)
    refine V.ifb_eq aX5_cell_11 (tgt := 31) (by decide) (fun c11 => ?_) (fun c11 => ?_)
    · exfalso
      omega
    · refine V.ald0 aX5_cell_14 ?_
      refine V.getf aX5_cell_15 fl_RX5_12 p.1.1 rfl ?_
      refine V.mem (m2 := BM m (X + 1) b.1 b.2) eb.symm ?_
      refine U.gfS aX5_cell_18 fl_RX5_132 rfl ?_
      refine V.ild1 aX5_cell_21 ?_
      refine U.aaP aX5_cell_22 (by omega) ?_
      refine U.gfP aX5_cell_23 fl_RX5_136 (by omega) rfl ?_
      refine V.ild2 aX5_cell_26 ?_
      refine U.ldc aX5_cell_27 (by omega) (by omega) ?_
      refine V.goto aX5_cell_28 (tgt := 32) (by decide) ?_
      refine V.iret aX5_cell_32 rfl (by decide) ?_
      exact PI.of2 rfl eb.symm
theorem ok5_stored1 {p e : Int} (hw : ¬ (0 ≤ p ∧ p ≤ 5 ∧ 0 ≤ e ∧ e ≤ 11)) : Ok G kX5_stored 1 [.inr (some X), .inl p, .inl e] sz m 0 0 (PI (-1) sz m) := by
  refine Ok.body [some (.inr (some X)), some (.inl p), some (.inl e)] rfl (Nat.le_of_ble_eq_true rfl) (by decide) ?_
  refine V.ild1 aX5_stored_0 ?_
  refine call_X5_isPage aX5_stored_1 gl_RX5_27 (ok_isPage5) (Nat.le_of_ble_eq_true rfl) (by decide) (goI ?_)
  refine V.ifb_eq aX5_stored_4 (tgt := 31) (by decide) (fun c4 => ?_) (fun c4 => ?_)
  · refine V.iconst aX5_stored_31 (by decide) ?_
    refine V.iret aX5_stored_32 rfl (by decide) ?_
    exact PI.of rfl
  · refine V.ild2 aX5_stored_7 ?_
    refine call_X5_isCell aX5_stored_8 gl_RX5_31 (ok_isCell5) (Nat.le_of_ble_eq_true rfl) (by decide) (goI ?_)
    refine V.ifb_eq aX5_stored_11 (tgt := 31) (by decide) (fun c11 => ?_) (fun c11 => ?_)
    · refine V.iconst aX5_stored_31 (by decide) ?_
      refine V.iret aX5_stored_32 rfl (by decide) ?_
      exact PI.of rfl
    · exfalso
      omega
theorem ok5_stored2 {pg e : Int} (p : PQ m X Z t0 mb C b h c sv ish tx ln) (hw : 0 ≤ pg ∧ pg ≤ 5 ∧ 0 ≤ e ∧ e ≤ 11) : Ok G kX5_stored 1 [.inr (some X), .inl pg, .inl e] sz m 0 0 (PI (b.1 (80 + 12 * pg + e)) sz m) := by
  refine Ok.body [some (.inr (some X)), some (.inl pg), some (.inl e)] rfl (Nat.le_of_ble_eq_true rfl) (by decide) ?_
  have eb := p.1.2.2.2.2.1.1.eq
  refine V.ild1 aX5_stored_0 ?_
  refine call_X5_isPage aX5_stored_1 gl_RX5_27 (ok_isPage5) (Nat.le_of_ble_eq_true rfl) (by decide) (goI ?_)
  refine V.ifb_eq aX5_stored_4 (tgt := 31) (by decide) (fun c4 => ?_) (fun c4 => ?_)
  · exfalso
    omega
  · refine V.ild2 aX5_stored_7 ?_
    refine call_X5_isCell aX5_stored_8 gl_RX5_31 (ok_isCell5) (Nat.le_of_ble_eq_true rfl) (by decide) (goI ?_)
    refine V.ifb_eq aX5_stored_11 (tgt := 31) (by decide) (fun c11 => ?_) (fun c11 => ?_)
    · exfalso
      omega
    · refine V.ald0 aX5_stored_14 ?_
      refine V.getf aX5_stored_15 fl_RX5_12 p.1.1 rfl ?_
      refine V.mem (m2 := BM m (X + 1) b.1 b.2) eb.symm ?_
      refine U.gfS aX5_stored_18 fl_RX5_132 rfl ?_
      refine V.ild1 aX5_stored_21 ?_
      refine U.aaP aX5_stored_22 (by omega) ?_
      refine U.gfP aX5_stored_23 fl_RX5_170 (by omega) rfl ?_
      refine V.ild2 aX5_stored_26 ?_
      refine U.ldk aX5_stored_27 (by omega) (by omega) ?_
      refine V.goto aX5_stored_28 (tgt := 32) (by decide) ?_
      refine V.iret aX5_stored_32 rfl (by decide) ?_
      exact PI.of2 rfl eb.symm
end
