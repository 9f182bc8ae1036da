-- acts of the whole log (part five): changes
section
variable {G : GX} {sz : Nat} {m m1 mb : Mem} {X Z t0 : Nat} {C D : Int} {b c : BS} {h : Int → Nat × BS} {sv ish ln : Int} {tx : Int → Int}
theorem ok5_add1 {p a e v : Int} (hw : ¬ (0 ≤ p ∧ p ≤ 5 ∧ 0 ≤ a ∧ a ≤ 11 ∧ 0 ≤ e ∧ e ≤ 11)) : Ok G kX5_add 6 [.inr (some X), .inl p, .inl a, .inl e, .inl v] sz m 3 28 (PI (-1) sz m) := by
  refine Ok.body [some (.inr (some X)), some (.inl p), some (.inl a), some (.inl e), some (.inl v)] rfl (Nat.le_of_ble_eq_true rfl) (by decide) ?_
  refine V.ild1 aX5_add_0 ?_
  refine call_X5_isPage aX5_add_1 gl_RX5_27 (ok_isPage5) (Nat.le_of_ble_eq_true rfl) (by decide) (goI ?_)
  refine V.ifb_eq aX5_add_4 (tgt := 21) (by decide) (fun c4 => ?_) (fun c4 => ?_)
  · refine V.iconst aX5_add_21 (by decide) ?_
    refine V.iret aX5_add_22 rfl (by decide) ?_
    exact PI.of rfl
  · refine V.ild2 aX5_add_7 ?_
    refine call_X5_isCell aX5_add_8 gl_RX5_31 (ok_isCell5) (Nat.le_of_ble_eq_true rfl) (by decide) (goI ?_)
    refine V.ifb_eq aX5_add_11 (tgt := 21) (by decide) (fun c11 => ?_) (fun c11 => ?_)
    · refine V.iconst aX5_add_21 (by decide) ?_
      refine V.iret aX5_add_22 rfl (by decide) ?_
      exact PI.of rfl
    · refine V.ild3 aX5_add_14 ?_
      refine call_X5_isCell aX5_add_15 gl_RX5_31 (ok_isCell5) (Nat.le_of_ble_eq_true rfl) (by decide) (goI ?_)
      refine V.ifb_ne aX5_add_18 (tgt := 23) (by decide) (fun c18 => ?_) (fun c18 => ?_)
      · exfalso
        omega
      · refine V.iconst aX5_add_21 (by decide) ?_
        refine V.iret aX5_add_22 rfl (by decide) ?_
        exact PI.of rfl
theorem ok5_add2 {p a e v : Int} (hw : 0 ≤ p ∧ p ≤ 5 ∧ 0 ≤ a ∧ a ≤ 11 ∧ 0 ≤ e ∧ e ≤ 11) (h2 : e < a ∨ ¬ (1 ≤ v ∧ v ≤ 9)) : Ok G kX5_add 6 [.inr (some X), .inl p, .inl a, .inl e, .inl v] sz m 3 28 (PI (-2) sz m) := by
  refine Ok.body [some (.inr (some X)), some (.inl p), some (.inl a), some (.inl e), some (.inl v)] rfl (Nat.le_of_ble_eq_true rfl) (by decide) ?_
  refine V.ild1 aX5_add_0 ?_
  refine call_X5_isPage aX5_add_1 gl_RX5_27 (ok_isPage5) (Nat.le_of_ble_eq_true rfl) (by decide) (goI ?_)
  refine V.ifb_eq aX5_add_4 (tgt := 21) (by decide) (fun c4 => ?_) (fun c4 => ?_)
  · exfalso
    omega
  · refine V.ild2 aX5_add_7 ?_
    refine call_X5_isCell aX5_add_8 gl_RX5_31 (ok_isCell5) (Nat.le_of_ble_eq_true rfl) (by decide) (goI ?_)
    refine V.ifb_eq aX5_add_11 (tgt := 21) (by decide) (fun c11 => ?_) (fun c11 => ?_)
    · exfalso
      omega
    · refine V.ild3 aX5_add_14 ?_
      refine call_X5_isCell aX5_add_15 gl_RX5_31 (ok_isCell5) (Nat.le_of_ble_eq_true rfl) (by decide) (goI ?_)
      refine V.ifb_ne aX5_add_18 (tgt := 23) (by decide) (fun c18 => ?_) (fun c18 => ?_)
      · refine V.ild3 aX5_add_23 ?_
        refine V.ild2 aX5_add_24 ?_
        refine V.icmp_lt aX5_add_25 (tgt := 41) (by decide) (fun c25 => ?_) (fun c25 => ?_)
        · refine V.bipush aX5_add_41 (by decide) (by decide) ?_
          refine V.iret aX5_add_43 rfl (by decide) ?_
          exact PI.of rfl
        · refine V.ild4 aX5_add_28 ?_
          refine V.iconst aX5_add_30 (by decide) ?_
          refine V.icmp_lt aX5_add_31 (tgt := 41) (by decide) (fun c31 => ?_) (fun c31 => ?_)
          · refine V.bipush aX5_add_41 (by decide) (by decide) ?_
            refine V.iret aX5_add_43 rfl (by decide) ?_
            exact PI.of rfl
          · refine V.ild4 aX5_add_34 ?_
            refine V.bipush aX5_add_36 (by decide) (by decide) ?_
            refine V.icmp_lt aX5_add_38 (tgt := 44) (by decide) (fun c38 => ?_) (fun c38 => ?_)
            · exfalso
              omega
            · refine V.bipush aX5_add_41 (by decide) (by decide) ?_
              refine V.iret aX5_add_43 rfl (by decide) ?_
              exact PI.of rfl
      · exfalso
        omega
theorem ok5_add3 {pg a e v : Int} (p : PQ m X Z t0 mb C b h c sv ish tx ln) (hC : C + 1 ≤ 20000) (hG : G.2.2.2 = t0) (hsz : Z ≤ sz) (hw : 0 ≤ pg ∧ pg ≤ 5 ∧ 0 ≤ a ∧ a ≤ 11 ∧ 0 ≤ e ∧ e ≤ 11) (h2 : a ≤ e ∧ 1 ≤ v ∧ v ≤ 9) : Ok G kX5_add 6 [.inr (some X), .inl pg, .inl a, .inl e, .inl v] sz m 3 28 (acted X Z t0 mb C b.1 (mkF pg 2 a (e - a + 1) v Zr) h c sv ish tx ln sz) := by
  refine Ok.body [some (.inr (some X)), some (.inl pg), some (.inl a), some (.inl e), some (.inl v)] rfl (Nat.le_of_ble_eq_true rfl) (by decide) ?_
  have hs := p.sv_b
  have hn := p.2.1.2.num
  have hM : entOK (mkF pg 2 a (e - a + 1) v Zr) 0 := mkF_ok (by omega) (by decide) (by omega) (by omega) (by omega) (by omega) (by omega)
  obtain ⟨w, hwd⟩ : ∃ w, w = mkF pg 2 a (e - a + 1) v Zr := ⟨_, rfl⟩
  rw [← hwd] at hM ⊢
  refine V.ild1 aX5_add_0 ?_
  refine call_X5_isPage aX5_add_1 gl_RX5_27 (ok_isPage5) (Nat.le_of_ble_eq_true rfl) (by decide) (goI ?_)
  refine V.ifb_eq aX5_add_4 (tgt := 21) (by decide) (fun c4 => ?_) (fun c4 => ?_)
  · exfalso
    omega
  · refine V.ild2 aX5_add_7 ?_
    refine call_X5_isCell aX5_add_8 gl_RX5_31 (ok_isCell5) (Nat.le_of_ble_eq_true rfl) (by decide) (goI ?_)
    refine V.ifb_eq aX5_add_11 (tgt := 21) (by decide) (fun c11 => ?_) (fun c11 => ?_)
    · exfalso
      omega
    · refine V.ild3 aX5_add_14 ?_
      refine call_X5_isCell aX5_add_15 gl_RX5_31 (ok_isCell5) (Nat.le_of_ble_eq_true rfl) (by decide) (goI ?_)
      refine V.ifb_ne aX5_add_18 (tgt := 23) (by decide) (fun c18 => ?_) (fun c18 => ?_)
      · refine V.ild3 aX5_add_23 ?_
        refine V.ild2 aX5_add_24 ?_
        refine V.icmp_lt aX5_add_25 (tgt := 41) (by decide) (fun c25 => ?_) (fun c25 => ?_)
        · exfalso
          omega
        · refine V.ild4 aX5_add_28 ?_
          refine V.iconst aX5_add_30 (by decide) ?_
          refine V.icmp_lt aX5_add_31 (tgt := 41) (by decide) (fun c31 => ?_) (fun c31 => ?_)
          · exfalso
            omega
          · refine V.ild4 aX5_add_34 ?_
            refine V.bipush aX5_add_36 (by decide) (by decide) ?_
            refine V.icmp_lt aX5_add_38 (tgt := 44) (by decide) (fun c38 => ?_) (fun c38 => ?_)
            · refine V.ald0 aX5_add_44 ?_
              refine V.beg aX5_add_45 gl_RX5_37 p (Nat.le_of_ble_eq_true rfl) (by decide) (fun m2 g2 q1 q2 => ?_)
              have p9 := q1.1.2.2.2.2.2.2.2.2.1
              refine V.knowS (fun hu _ => ?_)
              obtain ⟨h0, hz0⟩ := q1.1.2.2.2.1
              refine V.ald0 aX5_add_48 ?_
              refine V.ald0 aX5_add_49 ?_
              refine V.getf aX5_add_50 fl_RX5_12 q1.1.1 rfl ?_
              refine V.ild1 aX5_add_53 ?_
              refine V.iconst aX5_add_54 (by decide) ?_
              refine V.ild2 aX5_add_55 ?_
              refine V.ild3 aX5_add_56 ?_
              refine V.ild4 aX5_add_57 ?_
              refine call_X0_ofCells aX5_add_59 gl_RX5_40 (ok_ofCells hG hz0 (by omega) (by omega)) (Nat.le_of_ble_eq_true rfl) (by decide) (goR ?_)
              have hx : Ext m2 (upM m2 sz (obj 0 (fobj pg 2 a e v t0 0 4))) := Ext.new (hu sz (Nat.le_refl _))
              have hA : AskR Z t0 (upM m2 sz (obj 0 (fobj pg 2 a e v t0 0 4))) sz w := by
                rw [hwd] at hM ⊢
                refine Or.inl ⟨by rw [mkF_at (by decide)]; exact (show (2 : Int) ≠ 0 by decide), hM, mkF_ent (h0 := h0) (size := 4) (by decide) rfl ?_ (hx.at hz0 iar_nu) hsz⟩
                rw [upM_s, show a + (e - a + 1) - 1 = e by omega]
              refine V.mem (m2 := BM (upM m2 sz (obj 0 (fobj pg 2 a e v t0 0 4))) (X + 1) b.1 b.2) (q1.1.2.2.2.2.1.1.extB (B := X + 134) (fun a h0 _ => hx a h0) (by omega)).eq.symm ?_
              refine call_X4_carryOut aX5_add_62 gl_RX5_46 (ok_carry hA q1.2.1.2 hC (q1.2.1.1.ext hx) (q1.1.2.2.2.2.1.2.ext hx) ⟨by omega, by omega⟩ (by omega)) (BM_S) (Nat.le_of_ble_eq_true rfl) (by decide) (fun r62 z62 m62 h62 => ?_)
              obtain ⟨hz62, hpc⟩ := h62
              by_cases hf : fits1 b.1 (doMk b.1 Zr w)
              · rw [if_pos hf] at hpc
                obtain ⟨rfl, m4, g4, hx4, rfl, tR, tS⟩ := hpc
                have pa := q1.act (m1 := m4) (D := C + 1) (hx.tr hx4) tR tS (q1.2.1.2.does Zr hC hA.ok hA.pg) (by omega)
                have y1 : ExtB (X + 1) m2 (BM m4 (X + 1) (doS b.1 Zr w) g4) := fun a ha h1 => by rw [BM_n h1]; exact (hx.tr hx4) a ha
                have hk := (doMk_ok (s := b.1) (cl := Zr) (mk := w) q1.2.1.2.C hA.ok hA.pg).2.1
                rw [show (0 : Int) + 1 = 1 from rfl] at hk
                refine V.endS aX5_add_65 gl_RX5_50 pa (by rw [upI_s]; exact (q2.extB y1 (by omega)).mono (by omega)) hk.1 (Nat.le_of_ble_eq_true rfl) (by decide) (fun m3 h3 q3 q4 => ?_)
                refine V.iret aX5_add_68 rfl (by decide) ?_
                refine ⟨fun _ => ⟨rfl, by omega, _, h3, q3, fun i i0 i1 => ?_⟩, fun q => absurd hf q⟩
                rw [q4 i i0 i1, upI_s, recR_up hs i0]
              · rw [if_neg hf] at hpc
                obtain ⟨rfl, m4, s4, g4, hx4, rfl⟩ := hpc
                refine V.endF aX5_add_65 gl_RX5_50 q1 (by rw [upI_s]; exact q2) (hx.tr hx4) (by decide) (Nat.le_of_ble_eq_true rfl) (by decide) (fun m3 g3 q3 => ?_)
                refine V.iret aX5_add_68 rfl (by decide) ?_
                rw [upI_s] at q3
                exact ⟨fun q => absurd q hf, fun _ => ⟨rfl, by omega, g3, _, q3, fun i i0 i1 => by rw [upI_n (by omega)]⟩⟩
              skip
            · exfalso
              omega
      · exfalso
        omega
theorem ok5_turn1 {p v : Int} (hw : ¬ (0 ≤ p ∧ p ≤ 5)) : Ok G kX5_turn 6 [.inr (some X), .inl p, .inl v] sz m 3 28 (PI (-1) sz m) := by
  refine Ok.body [some (.inr (some X)), some (.inl p), some (.inl v)] rfl (Nat.le_of_ble_eq_true rfl) (by decide) ?_
  refine V.ild1 aX5_turn_0 ?_
  refine call_X5_isPage aX5_turn_1 gl_RX5_27 (ok_isPage5) (Nat.le_of_ble_eq_true rfl) (by decide) (goI ?_)
  refine V.ifb_ne aX5_turn_4 (tgt := 9) (by decide) (fun c4 => ?_) (fun c4 => ?_)
  · exfalso
    omega
  · refine V.iconst aX5_turn_7 (by decide) ?_
    refine V.iret aX5_turn_8 rfl (by decide) ?_
    exact PI.of rfl
theorem ok5_turn2 {p v : Int} (hw : 0 ≤ p ∧ p ≤ 5) (h2 : ¬ (1 ≤ v ∧ v ≤ 11)) : Ok G kX5_turn 6 [.inr (some X), .inl p, .inl v] sz m 3 28 (PI (-2) sz m) := by
  refine Ok.body [some (.inr (some X)), some (.inl p), some (.inl v)] rfl (Nat.le_of_ble_eq_true rfl) (by decide) ?_
  refine V.ild1 aX5_turn_0 ?_
  refine call_X5_isPage aX5_turn_1 gl_RX5_27 (ok_isPage5) (Nat.le_of_ble_eq_true rfl) (by decide) (goI ?_)
  refine V.ifb_ne aX5_turn_4 (tgt := 9) (by decide) (fun c4 => ?_) (fun c4 => ?_)
  · refine V.ild2 aX5_turn_9 ?_
    refine V.iconst aX5_turn_10 (by decide) ?_
    refine V.icmp_lt aX5_turn_11 (tgt := 20) (by decide) (fun c11 => ?_) (fun c11 => ?_)
    · refine V.bipush aX5_turn_20 (by decide) (by decide) ?_
      refine V.iret aX5_turn_22 rfl (by decide) ?_
      exact PI.of rfl
    · refine V.ild2 aX5_turn_14 ?_
      refine V.bipush aX5_turn_15 (by decide) (by decide) ?_
      refine V.icmp_lt aX5_turn_17 (tgt := 23) (by decide) (fun c17 => ?_) (fun c17 => ?_)
      · exfalso
        omega
      · refine V.bipush aX5_turn_20 (by decide) (by decide) ?_
        refine V.iret aX5_turn_22 rfl (by decide) ?_
        exact PI.of rfl
  · exfalso
    omega
theorem ok5_turn3 {pg v : Int} (p : PQ m X Z t0 mb C b h c sv ish tx ln) (hC : C + 1 ≤ 20000) (hG : G.2.2.2 = t0) (hsz : Z ≤ sz) (hw : 0 ≤ pg ∧ pg ≤ 5) (h2 : 1 ≤ v ∧ v ≤ 11) : Ok G kX5_turn 6 [.inr (some X), .inl pg, .inl v] sz m 3 28 (acted X Z t0 mb C b.1 (mkF pg 3 0 12 v Zr) h c sv ish tx ln sz) := by
  refine Ok.body [some (.inr (some X)), some (.inl pg), some (.inl v)] rfl (Nat.le_of_ble_eq_true rfl) (by decide) ?_
  have hs := p.sv_b
  have hn := p.2.1.2.num
  have hM : entOK (mkF pg 3 0 12 v Zr) 0 := mkF_ok (by omega) (by decide) (by omega) (by omega) (by omega) (by omega) (by omega)
  obtain ⟨w, hwd⟩ : ∃ w, w = mkF pg 3 0 12 v Zr := ⟨_, rfl⟩
  rw [← hwd] at hM ⊢
  refine V.ild1 aX5_turn_0 ?_
  refine call_X5_isPage aX5_turn_1 gl_RX5_27 (ok_isPage5) (Nat.le_of_ble_eq_true rfl) (by decide) (goI ?_)
  refine V.ifb_ne aX5_turn_4 (tgt := 9) (by decide) (fun c4 => ?_) (fun c4 => ?_)
  · refine V.ild2 aX5_turn_9 ?_
    refine V.iconst aX5_turn_10 (by decide) ?_
    refine V.icmp_lt aX5_turn_11 (tgt := 20) (by decide) (fun c11 => ?_) (fun c11 => ?_)
    · exfalso
      omega
    · refine V.ild2 aX5_turn_14 ?_
      refine V.bipush aX5_turn_15 (by decide) (by decide) ?_
      refine V.icmp_lt aX5_turn_17 (tgt := 23) (by decide) (fun c17 => ?_) (fun c17 => ?_)
      · refine V.ald0 aX5_turn_23 ?_
        refine V.beg aX5_turn_24 gl_RX5_37 p (Nat.le_of_ble_eq_true rfl) (by decide) (fun m2 g2 q1 q2 => ?_)
        have p9 := q1.1.2.2.2.2.2.2.2.2.1
        refine V.knowS (fun hu _ => ?_)
        obtain ⟨h0, hz0⟩ := q1.1.2.2.2.1
        refine V.ald0 aX5_turn_27 ?_
        refine V.ald0 aX5_turn_28 ?_
        refine V.getf aX5_turn_29 fl_RX5_12 q1.1.1 rfl ?_
        refine V.ild1 aX5_turn_32 ?_
        refine V.ild2 aX5_turn_33 ?_
        refine call_X0_ofTurn aX5_turn_34 gl_RX5_54 (ok_ofTurn hG hz0 (by omega)) (Nat.le_of_ble_eq_true rfl) (by decide) (goR ?_)
        have hx : Ext m2 (upM m2 sz (obj 0 (fobj pg 3 0 11 v t0 0 3))) := Ext.new (hu sz (Nat.le_refl _))
        have hA : AskR Z t0 (upM m2 sz (obj 0 (fobj pg 3 0 11 v t0 0 3))) sz w := by
          rw [hwd] at hM ⊢
          refine Or.inl ⟨by rw [mkF_at (by decide)]; exact (show (3 : Int) ≠ 0 by decide), hM, mkF_ent (h0 := h0) (size := 3) (by decide) rfl ?_ (hx.at hz0 iar_nu) hsz⟩
          exact upM_s
        refine V.mem (m2 := BM (upM m2 sz (obj 0 (fobj pg 3 0 11 v t0 0 3))) (X + 1) b.1 b.2) (q1.1.2.2.2.2.1.1.extB (B := X + 134) (fun a h0 _ => hx a h0) (by omega)).eq.symm ?_
        refine call_X4_carryOut aX5_turn_37 gl_RX5_46 (ok_carry hA q1.2.1.2 hC (q1.2.1.1.ext hx) (q1.1.2.2.2.2.1.2.ext hx) ⟨by omega, by omega⟩ (by omega)) (BM_S) (Nat.le_of_ble_eq_true rfl) (by decide) (fun r37 z37 m37 h37 => ?_)
        obtain ⟨hz37, hpc⟩ := h37
        by_cases hf : fits1 b.1 (doMk b.1 Zr w)
        · rw [if_pos hf] at hpc
          obtain ⟨rfl, m4, g4, hx4, rfl, tR, tS⟩ := hpc
          have pa := q1.act (m1 := m4) (D := C + 1) (hx.tr hx4) tR tS (q1.2.1.2.does Zr hC hA.ok hA.pg) (by omega)
          have y1 : ExtB (X + 1) m2 (BM m4 (X + 1) (doS b.1 Zr w) g4) := fun a ha h1 => by rw [BM_n h1]; exact (hx.tr hx4) a ha
          have hk := (doMk_ok (s := b.1) (cl := Zr) (mk := w) q1.2.1.2.C hA.ok hA.pg).2.1
          rw [show (0 : Int) + 1 = 1 from rfl] at hk
          refine V.endS aX5_turn_40 gl_RX5_50 pa (by rw [upI_s]; exact (q2.extB y1 (by omega)).mono (by omega)) hk.1 (Nat.le_of_ble_eq_true rfl) (by decide) (fun m3 h3 q3 q4 => ?_)
          refine V.iret aX5_turn_43 rfl (by decide) ?_
          refine ⟨fun _ => ⟨rfl, by omega, _, h3, q3, fun i i0 i1 => ?_⟩, fun q => absurd hf q⟩
          rw [q4 i i0 i1, upI_s, recR_up hs i0]
        · rw [if_neg hf] at hpc
          obtain ⟨rfl, m4, s4, g4, hx4, rfl⟩ := hpc
          refine V.endF aX5_turn_40 gl_RX5_50 q1 (by rw [upI_s]; exact q2) (hx.tr hx4) (by decide) (Nat.le_of_ble_eq_true rfl) (by decide) (fun m3 g3 q3 => ?_)
          refine V.iret aX5_turn_43 rfl (by decide) ?_
          rw [upI_s] at q3
          exact ⟨fun q => absurd q hf, fun _ => ⟨rfl, by omega, g3, _, q3, fun i i0 i1 => by rw [upI_n (by omega)]⟩⟩
        skip
      · exfalso
        omega
  · exfalso
    omega
end
