-- acts of the whole log (part four): changes
section
variable {G : GX} {sz : Nat} {m m1 mb : Mem} {X Z t0 : Nat} {C D : Int} {b c : BS} {h : Int → Nat × BS} {sv ish ln : Int} {tx : Int → Int}
theorem ok_isPage5 {p : Int} : Ok G kX5_isPage 0 [.inl p] sz m 0 0 (PI (b2 (0 ≤ p ∧ p < 6)) sz m) := by
  refine Ok.body [some (.inl p)] rfl (Nat.le_of_ble_eq_true rfl) (by decide) ?_
  refine V.ild0 aX5_isPage_0 ?_
  refine V.if_lt aX5_isPage_1 (tgt := 14) (by decide) (fun c1 => ?_) (fun c1 => ?_)
  · refine V.iconst aX5_isPage_14 (by decide) ?_
    refine V.zret aX5_isPage_15 rfl (by first | decide | exact b2_01 | omega) (by decide) ?_
    exact PI.of (by unfold b2; split <;> omega)
  · refine V.ild0 aX5_isPage_4 ?_
    refine V.bipush aX5_isPage_5 (by decide) (by decide) ?_
    refine V.icmp_ge aX5_isPage_7 (tgt := 14) (by decide) (fun c7 => ?_) (fun c7 => ?_)
    · refine V.iconst aX5_isPage_14 (by decide) ?_
      refine V.zret aX5_isPage_15 rfl (by first | decide | exact b2_01 | omega) (by decide) ?_
      exact PI.of (by unfold b2; split <;> omega)
    · refine V.iconst aX5_isPage_10 (by decide) ?_
      refine V.goto aX5_isPage_11 (tgt := 15) (by decide) ?_
      refine V.zret aX5_isPage_15 rfl (by first | decide | exact b2_01 | omega) (by decide) ?_
      exact PI.of (by unfold b2; split <;> omega)
theorem ok_isCell5 {p : Int} : Ok G kX5_isCell 0 [.inl p] sz m 0 0 (PI (b2 (0 ≤ p ∧ p < 12)) sz m) := by
  refine Ok.body [some (.inl p)] rfl (Nat.le_of_ble_eq_true rfl) (by decide) ?_
  refine V.ild0 aX5_isCell_0 ?_
  refine V.if_lt aX5_isCell_1 (tgt := 14) (by decide) (fun c1 => ?_) (fun c1 => ?_)
  · refine V.iconst aX5_isCell_14 (by decide) ?_
    refine V.zret aX5_isCell_15 rfl (by first | decide | exact b2_01 | omega) (by decide) ?_
    exact PI.of (by unfold b2; split <;> omega)
  · refine V.ild0 aX5_isCell_4 ?_
    refine V.bipush aX5_isCell_5 (by decide) (by decide) ?_
    refine V.icmp_ge aX5_isCell_7 (tgt := 14) (by decide) (fun c7 => ?_) (fun c7 => ?_)
    · refine V.iconst aX5_isCell_14 (by decide) ?_
      refine V.zret aX5_isCell_15 rfl (by first | decide | exact b2_01 | omega) (by decide) ?_
      exact PI.of (by unfold b2; split <;> omega)
    · refine V.iconst aX5_isCell_10 (by decide) ?_
      refine V.goto aX5_isCell_11 (tgt := 15) (by decide) ?_
      refine V.zret aX5_isCell_15 rfl (by first | decide | exact b2_01 | omega) (by decide) ?_
      exact PI.of (by unfold b2; split <;> omega)
theorem ok_isValue5 {p : Int} : Ok G kX5_isValue 0 [.inl p] sz m 0 0 (PI (b2 (0 ≤ p ∧ p < 10)) sz m) := by
  refine Ok.body [some (.inl p)] rfl (Nat.le_of_ble_eq_true rfl) (by decide) ?_
  refine V.ild0 aX5_isValue_0 ?_
  refine V.if_lt aX5_isValue_1 (tgt := 14) (by decide) (fun c1 => ?_) (fun c1 => ?_)
  · refine V.iconst aX5_isValue_14 (by decide) ?_
    refine V.zret aX5_isValue_15 rfl (by first | decide | exact b2_01 | omega) (by decide) ?_
    exact PI.of (by unfold b2; split <;> omega)
  · refine V.ild0 aX5_isValue_4 ?_
    refine V.bipush aX5_isValue_5 (by decide) (by decide) ?_
    refine V.icmp_ge aX5_isValue_7 (tgt := 14) (by decide) (fun c7 => ?_) (fun c7 => ?_)
    · refine V.iconst aX5_isValue_14 (by decide) ?_
      refine V.zret aX5_isValue_15 rfl (by first | decide | exact b2_01 | omega) (by decide) ?_
      exact PI.of (by unfold b2; split <;> omega)
    · refine V.iconst aX5_isValue_10 (by decide) ?_
      refine V.goto aX5_isValue_11 (tgt := 15) (by decide) ?_
      refine V.zret aX5_isValue_15 rfl (by first | decide | exact b2_01 | omega) (by decide) ?_
      exact PI.of (by unfold b2; split <;> omega)
-- what a change leaves
def acted (X Z t0 : Nat) (mb : Mem) (C : Int) (s w : Int → Int) (h : Int → Nat × BS) (c : BS) (sv ish : Int) (tx : Int → Int) (ln : Int) (sz : Nat) : PO := fun ret z m' => (fits1 s (doMk s Zr w) → done X Z t0 mb (C + 1) (doS s Zr w) s h c sv ish tx ln (doMk s Zr w 1) sz ret z m') ∧ (¬ fits1 s (doMk s Zr w) → undone X Z t0 mb C s h c sv ish tx ln (-3) sz ret z m')
theorem ok5_fill1 {p a e v : Int} (hw : ¬ (0 ≤ p ∧ p ≤ 5 ∧ 0 ≤ a ∧ a ≤ 11 ∧ 0 ≤ e ∧ e ≤ 11)) : Ok G kX5_fill 6 [.inr (some X), .inl p, .inl a, .inl e, .inl v] sz m 3 28 (PI (-1) sz m) := by
  refine Ok.body [some (.inr (some X)), some (.inl p), some (.inl a), some (.inl e), some (.inl v)] rfl (Nat.le_of_ble_eq_true rfl) (by decide) ?_
  refine V.ild1 aX5_fill_0 ?_
  refine call_X5_isPage aX5_fill_1 gl_RX5_27 (ok_isPage5) (Nat.le_of_ble_eq_true rfl) (by decide) (goI ?_)
  refine V.ifb_eq aX5_fill_4 (tgt := 21) (by decide) (fun c4 => ?_) (fun c4 => ?_)
  · refine V.iconst aX5_fill_21 (by decide) ?_
    refine V.iret aX5_fill_22 rfl (by decide) ?_
    exact PI.of rfl
  · refine V.ild2 aX5_fill_7 ?_
    refine call_X5_isCell aX5_fill_8 gl_RX5_31 (ok_isCell5) (Nat.le_of_ble_eq_true rfl) (by decide) (goI ?_)
    refine V.ifb_eq aX5_fill_11 (tgt := 21) (by decide) (fun c11 => ?_) (fun c11 => ?_)
    · refine V.iconst aX5_fill_21 (by decide) ?_
      refine V.iret aX5_fill_22 rfl (by decide) ?_
      exact PI.of rfl
    · refine V.ild3 aX5_fill_14 ?_
      refine call_X5_isCell aX5_fill_15 gl_RX5_31 (ok_isCell5) (Nat.le_of_ble_eq_true rfl) (by decide) (goI ?_)
      refine V.ifb_ne aX5_fill_18 (tgt := 23) (by decide) (fun c18 => ?_) (fun c18 => ?_)
      · exfalso
        omega
      · refine V.iconst aX5_fill_21 (by decide) ?_
        refine V.iret aX5_fill_22 rfl (by decide) ?_
        exact PI.of rfl
theorem ok5_fill2 {p a e v : Int} (hw : 0 ≤ p ∧ p ≤ 5 ∧ 0 ≤ a ∧ a ≤ 11 ∧ 0 ≤ e ∧ e ≤ 11) (h2 : e < a ∨ ¬ (0 ≤ v ∧ v ≤ 9)) : Ok G kX5_fill 6 [.inr (some X), .inl p, .inl a, .inl e, .inl v] sz m 3 28 (PI (-2) sz m) := by
  refine Ok.body [some (.inr (some X)), some (.inl p), some (.inl a), some (.inl e), some (.inl v)] rfl (Nat.le_of_ble_eq_true rfl) (by decide) ?_
  refine V.ild1 aX5_fill_0 ?_
  refine call_X5_isPage aX5_fill_1 gl_RX5_27 (ok_isPage5) (Nat.le_of_ble_eq_true rfl) (by decide) (goI ?_)
  refine V.ifb_eq aX5_fill_4 (tgt := 21) (by decide) (fun c4 => ?_) (fun c4 => ?_)
  · exfalso
    omega
  · refine V.ild2 aX5_fill_7 ?_
    refine call_X5_isCell aX5_fill_8 gl_RX5_31 (ok_isCell5) (Nat.le_of_ble_eq_true rfl) (by decide) (goI ?_)
    refine V.ifb_eq aX5_fill_11 (tgt := 21) (by decide) (fun c11 => ?_) (fun c11 => ?_)
    · exfalso
      omega
    · refine V.ild3 aX5_fill_14 ?_
      refine call_X5_isCell aX5_fill_15 gl_RX5_31 (ok_isCell5) (Nat.le_of_ble_eq_true rfl) (by decide) (goI ?_)
      refine V.ifb_ne aX5_fill_18 (tgt := 23) (by decide) (fun c18 => ?_) (fun c18 => ?_)
      · refine V.ild3 aX5_fill_23 ?_
        refine V.ild2 aX5_fill_24 ?_
        refine V.icmp_lt aX5_fill_25 (tgt := 36) (by decide) (fun c25 => ?_) (fun c25 => ?_)
        · refine V.bipush aX5_fill_36 (by decide) (by decide) ?_
          refine V.iret aX5_fill_38 rfl (by decide) ?_
          exact PI.of rfl
        · refine V.ild4 aX5_fill_28 ?_
          refine call_X5_isValue aX5_fill_30 gl_RX5_34 (ok_isValue5) (Nat.le_of_ble_eq_true rfl) (by decide) (goI ?_)
          refine V.ifb_ne aX5_fill_33 (tgt := 39) (by decide) (fun c33 => ?_) (fun c33 => ?_)
          · exfalso
            omega
          · refine V.bipush aX5_fill_36 (by decide) (by decide) ?_
            refine V.iret aX5_fill_38 rfl (by decide) ?_
            exact PI.of rfl
      · exfalso
        omega
theorem ok5_fill3 {pg a e v : Int} (p : PQ m X Z t0 mb C b h c sv ish tx ln) (hC : C + 1 ≤ 20000) (hG : G.2.2.2 = t0) (hsz : Z ≤ sz) (hw : 0 ≤ pg ∧ pg ≤ 5 ∧ 0 ≤ a ∧ a ≤ 11 ∧ 0 ≤ e ∧ e ≤ 11) (h2 : a ≤ e ∧ 0 ≤ v ∧ v ≤ 9) : Ok G kX5_fill 6 [.inr (some X), .inl pg, .inl a, .inl e, .inl v] sz m 3 28 (acted X Z t0 mb C b.1 (mkF pg 1 a (e - a + 1) v Zr) h c sv ish tx ln sz) := by
  refine Ok.body [some (.inr (some X)), some (.inl pg), some (.inl a), some (.inl e), some (.inl v)] rfl (Nat.le_of_ble_eq_true rfl) (by decide) ?_
  have hs := p.sv_b
  have hn := p.2.1.2.num
  have hM : entOK (mkF pg 1 a (e - a + 1) v Zr) 0 := mkF_ok (by omega) (by decide) (by omega) (by omega) (by omega) (by omega) (by omega)
  obtain ⟨w, hwd⟩ : ∃ w, w = mkF pg 1 a (e - a + 1) v Zr := ⟨_, rfl⟩
  rw [← hwd] at hM ⊢
  refine V.ild1 aX5_fill_0 ?_
  refine call_X5_isPage aX5_fill_1 gl_RX5_27 (ok_isPage5) (Nat.le_of_ble_eq_true rfl) (by decide) (goI ?_)
  refine V.ifb_eq aX5_fill_4 (tgt := 21) (by decide) (fun c4 => ?_) (fun c4 => ?_)
  · exfalso
    omega
  · refine V.ild2 aX5_fill_7 ?_
    refine call_X5_isCell aX5_fill_8 gl_RX5_31 (ok_isCell5) (Nat.le_of_ble_eq_true rfl) (by decide) (goI ?_)
    refine V.ifb_eq aX5_fill_11 (tgt := 21) (by decide) (fun c11 => ?_) (fun c11 => ?_)
    · exfalso
      omega
    · refine V.ild3 aX5_fill_14 ?_
      refine call_X5_isCell aX5_fill_15 gl_RX5_31 (ok_isCell5) (Nat.le_of_ble_eq_true rfl) (by decide) (goI ?_)
      refine V.ifb_ne aX5_fill_18 (tgt := 23) (by decide) (fun c18 => ?_) (fun c18 => ?_)
      · refine V.ild3 aX5_fill_23 ?_
        refine V.ild2 aX5_fill_24 ?_
        refine V.icmp_lt aX5_fill_25 (tgt := 36) (by decide) (fun c25 => ?_) (fun c25 => ?_)
        · exfalso
          omega
        · refine V.ild4 aX5_fill_28 ?_
          refine call_X5_isValue aX5_fill_30 gl_RX5_34 (ok_isValue5) (Nat.le_of_ble_eq_true rfl) (by decide) (goI ?_)
          refine V.ifb_ne aX5_fill_33 (tgt := 39) (by decide) (fun c33 => ?_) (fun c33 => ?_)
          · refine V.ald0 aX5_fill_39 ?_
            refine V.beg aX5_fill_40 gl_RX5_37 p (Nat.le_of_ble_eq_true rfl) (by decide) (fun m2 g2 q1 q2 => ?_)
            have p9 := q1.1.2.2.2.2.2.2.2.2.1
            refine V.knowS (fun hu _ => ?_)
            obtain ⟨h0, hz0⟩ := q1.1.2.2.2.1
            refine V.ald0 aX5_fill_43 ?_
            refine V.ald0 aX5_fill_44 ?_
            refine V.getf aX5_fill_45 fl_RX5_12 q1.1.1 rfl ?_
            refine V.ild1 aX5_fill_48 ?_
            refine V.iconst aX5_fill_49 (by decide) ?_
            refine V.ild2 aX5_fill_50 ?_
            refine V.ild3 aX5_fill_51 ?_
            refine V.ild4 aX5_fill_52 ?_
            refine call_X0_ofCells aX5_fill_54 gl_RX5_40 (ok_ofCells hG hz0 (by omega) (by omega)) (Nat.le_of_ble_eq_true rfl) (by decide) (goR ?_)
            have hx : Ext m2 (upM m2 sz (obj 0 (fobj pg 1 a e v t0 0 4))) := Ext.new (hu sz (Nat.le_refl _))
            have hA : AskR Z t0 (upM m2 sz (obj 0 (fobj pg 1 a e v t0 0 4))) sz w := by
              rw [hwd] at hM ⊢
              refine Or.inl ⟨by rw [mkF_at (by decide)]; exact (show (1 : Int) ≠ 0 by decide), hM, mkF_ent (h0 := h0) (size := 4) (by decide) rfl ?_ (hx.at hz0 iar_nu) hsz⟩
              rw [upM_s, show a + (e - a + 1) - 1 = e by omega]
            refine V.mem (m2 := BM (upM m2 sz (obj 0 (fobj pg 1 a e v t0 0 4))) (X + 1) b.1 b.2) (q1.1.2.2.2.2.1.1.extB (B := X + 134) (fun a h0 _ => hx a h0) (by omega)).eq.symm ?_
            refine call_X4_carryOut aX5_fill_57 gl_RX5_46 (ok_carry hA q1.2.1.2 hC (q1.2.1.1.ext hx) (q1.1.2.2.2.2.1.2.ext hx) ⟨by omega, by omega⟩ (by omega)) (BM_S) (Nat.le_of_ble_eq_true rfl) (by decide) (fun r57 z57 m57 h57 => ?_)
            obtain ⟨hz57, hpc⟩ := h57
            by_cases hf : fits1 b.1 (doMk b.1 Zr w)
            · rw [if_pos hf] at hpc
              obtain ⟨rfl, m4, g4, hx4, rfl, tR, tS⟩ := hpc
              have pa := q1.act (m1 := m4) (D := C + 1) (hx.tr hx4) tR tS (q1.2.1.2.does Zr hC hA.ok hA.pg) (by omega)
              have y1 : ExtB (X + 1) m2 (BM m4 (X + 1) (doS b.1 Zr w) g4) := fun a ha h1 => by rw [BM_n h1]; exact (hx.tr hx4) a ha
              have hk := (doMk_ok (s := b.1) (cl := Zr) (mk := w) q1.2.1.2.C hA.ok hA.pg).2.1
              rw [show (0 : Int) + 1 = 1 from rfl] at hk
              refine V.endS aX5_fill_60 gl_RX5_50 pa (by rw [upI_s]; exact (q2.extB y1 (by omega)).mono (by omega)) hk.1 (Nat.le_of_ble_eq_true rfl) (by decide) (fun m3 h3 q3 q4 => ?_)
              refine V.iret aX5_fill_63 rfl (by decide) ?_
              refine ⟨fun _ => ⟨rfl, by omega, _, h3, q3, fun i i0 i1 => ?_⟩, fun q => absurd hf q⟩
              rw [q4 i i0 i1, upI_s, recR_up hs i0]
            · rw [if_neg hf] at hpc
              obtain ⟨rfl, m4, s4, g4, hx4, rfl⟩ := hpc
              refine V.endF aX5_fill_60 gl_RX5_50 q1 (by rw [upI_s]; exact q2) (hx.tr hx4) (by decide) (Nat.le_of_ble_eq_true rfl) (by decide) (fun m3 g3 q3 => ?_)
              refine V.iret aX5_fill_63 rfl (by decide) ?_
              rw [upI_s] at q3
              exact ⟨fun q => absurd q hf, fun _ => ⟨rfl, by omega, g3, _, q3, fun i i0 i1 => by rw [upI_n (by omega)]⟩⟩
            skip
          · exfalso
            omega
      · exfalso
        omega
end
