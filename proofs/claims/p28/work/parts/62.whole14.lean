-- acts of the whole log (part ten): damage
theorem dmgZ_b {s : Int → Int} : 0 ≤ dmgZ s := by
  refine foldI_ind (f := fun n p => n + (if firstDam s p (s 3) = -5 then 0 else 1)) (z := 0) (a := 0) (fun _ x => 0 ≤ x) (by decide) (fun k x g0 g1 => ?_) 6 (by decide)
  split <;> omega
section
variable {G : GX} {sz : Nat} {m m1 mb : Mem} {X Z t0 : Nat} {C D : Int} {b c : BS} {h : Int → Nat × BS} {sv ish ln : Int} {tx : Int → Int}
theorem ok5_damage1 {r : Int} (p : PQ m X Z t0 mb C b h c sv ish tx ln) (hw : ¬ (b.1 2 ≤ r ∧ r ≤ b.1 3 - 1)) : Ok G kX5_damage 4 [.inr (some X), .inl r] sz m 1 8 (PI (-1) sz m) := by
  refine Ok.body [some (.inr (some X)), some (.inl r)] rfl (Nat.le_of_ble_eq_true rfl) (by decide) ?_
  have eb := p.1.2.2.2.2.1.1.eq
  refine V.ald0 aX5_damage_0 ?_
  refine V.getf aX5_damage_1 fl_RX5_12 p.1.1 rfl ?_
  refine V.mem (m2 := BM m (X + 1) b.1 b.2) eb.symm ?_
  refine U.gfS aX5_damage_4 fl_RX5_58 rfl ?_
  refine V.ild1 aX5_damage_7 ?_
  refine call_X1_holds aX5_damage_8 gl_RX5_112 (ok_holds1 p.2.1.2.N) (BM_L) (Nat.le_of_ble_eq_true rfl) (by decide) (goI ?_)
  refine V.ifb_ne aX5_damage_11 (tgt := 16) (by decide) (fun c11 => ?_) (fun c11 => ?_)
  · exfalso
    omega
  · refine V.iconst aX5_damage_14 (by decide) ?_
    refine V.iret aX5_damage_15 rfl (by decide) ?_
    exact PI.of2 rfl eb.symm
theorem ok5_damage2 {r : Int} (p : PQ m X Z t0 mb C b h c sv ish tx ln) (hw : b.1 2 ≤ r ∧ r ≤ b.1 3 - 1) (h4 : ofE b.1 r 4 = 1) : Ok G kX5_damage 4 [.inr (some X), .inl r] sz m 1 8 (undone X Z t0 mb C b.1 h c sv ish tx ln (-5) sz) := by
  refine Ok.body [some (.inr (some X)), some (.inl r)] rfl (Nat.le_of_ble_eq_true rfl) (by decide) ?_
  have hs := p.sv_b
  have eb := p.1.2.2.2.2.1.1.eq
  refine V.ald0 aX5_damage_0 ?_
  refine V.getf aX5_damage_1 fl_RX5_12 p.1.1 rfl ?_
  refine V.mem (m2 := BM m (X + 1) b.1 b.2) eb.symm ?_
  refine U.gfS aX5_damage_4 fl_RX5_58 rfl ?_
  refine V.ild1 aX5_damage_7 ?_
  refine call_X1_holds aX5_damage_8 gl_RX5_112 (ok_holds1 p.2.1.2.N) (BM_L) (Nat.le_of_ble_eq_true rfl) (by decide) (goI ?_)
  refine V.ifb_ne aX5_damage_11 (tgt := 16) (by decide) (fun c11 => ?_) (fun c11 => ?_)
  · refine V.mem (m2 := m) eb ?_
    refine V.ald0 aX5_damage_16 ?_
    refine V.beg aX5_damage_17 gl_RX5_37 p (Nat.le_of_ble_eq_true rfl) (by decide) (fun m2 g2 q1 q2 => ?_)
    have p9 := q1.1.2.2.2.2.2.2.2.2.1
    refine V.ald0 aX5_damage_20 ?_
    refine V.ald0 aX5_damage_21 ?_
    refine V.getf aX5_damage_22 fl_RX5_12 q1.1.1 rfl ?_
    refine V.ild1 aX5_damage_25 ?_
    refine V.mem (m2 := BM m2 (X + 1) b.1 b.2) q1.1.2.2.2.2.1.1.eq.symm ?_
    refine call_X4_harm aX5_damage_26 gl_RX5_115 (ok_harm1 q1.2.1.2 q1.2.1.1 (by omega) hw h4) (BM_S) (Nat.le_of_ble_eq_true rfl) (by decide) (goI ?_)
    refine V.endF aX5_damage_29 gl_RX5_50 q1 (by rw [upI_s]; exact q2) Ext.rf (by decide) (Nat.le_of_ble_eq_true rfl) (by decide) (fun m3 g3 q3 => ?_)
    refine V.iret aX5_damage_32 rfl (by decide) ?_
    rw [upI_s] at q3
    exact ⟨rfl, Nat.le_refl _, g3, _, q3, fun i i0 i1 => by rw [upI_n (by omega)]⟩
  · exfalso
    omega
theorem ok5_damage3 {r : Int} (p : PQ m X Z t0 mb C b h c sv ish tx ln) (hsz : Z ≤ sz) (hw : b.1 2 ≤ r ∧ r ≤ b.1 3 - 1) (h4 : ofE b.1 r 4 ≠ 1) : Ok G kX5_damage 4 [.inr (some X), .inl r] sz m 1 8 (done X Z t0 mb C (upI b.1 (170 + 17 * (r - b.1 2) + 4) 1) b.1 h c sv ish tx ln (dmgZ (upI b.1 (170 + 17 * (r - b.1 2) + 4) 1)) sz) := by
  refine Ok.body [some (.inr (some X)), some (.inl r)] rfl (Nat.le_of_ble_eq_true rfl) (by decide) ?_
  have hs := p.sv_b
  have hn := p.2.1.2.num
  have eb := p.1.2.2.2.2.1.1.eq
  refine V.ald0 aX5_damage_0 ?_
  refine V.getf aX5_damage_1 fl_RX5_12 p.1.1 rfl ?_
  refine V.mem (m2 := BM m (X + 1) b.1 b.2) eb.symm ?_
  refine U.gfS aX5_damage_4 fl_RX5_58 rfl ?_
  refine V.ild1 aX5_damage_7 ?_
  refine call_X1_holds aX5_damage_8 gl_RX5_112 (ok_holds1 p.2.1.2.N) (BM_L) (Nat.le_of_ble_eq_true rfl) (by decide) (goI ?_)
  refine V.ifb_ne aX5_damage_11 (tgt := 16) (by decide) (fun c11 => ?_) (fun c11 => ?_)
  · refine V.mem (m2 := m) eb ?_
    refine V.ald0 aX5_damage_16 ?_
    refine V.beg aX5_damage_17 gl_RX5_37 p (Nat.le_of_ble_eq_true rfl) (by decide) (fun m2 g2 q1 q2 => ?_)
    have p9 := q1.1.2.2.2.2.2.2.2.2.1
    refine V.ald0 aX5_damage_20 ?_
    refine V.ald0 aX5_damage_21 ?_
    refine V.getf aX5_damage_22 fl_RX5_12 q1.1.1 rfl ?_
    refine V.ild1 aX5_damage_25 ?_
    refine V.mem (m2 := BM m2 (X + 1) b.1 b.2) q1.1.2.2.2.2.1.1.eq.symm ?_
    refine call_X4_harm aX5_damage_26 gl_RX5_115 (ok_harm2 q1.2.1.2 q1.2.1.1 q1.1.2.2.2.2.1.2 ⟨by omega, hsz⟩ (by omega) hw h4) (BM_S) (Nat.le_of_ble_eq_true rfl) (by decide) (fun r26 z26 m26 h26 => ?_)
    obtain ⟨rfl, hz26, m4, g4, hx4, rfl, tR, tS⟩ := h26
    have pa := q1.act (m1 := m4) (D := C) hx4 tR tS (q1.2.1.2.damage hw) (by omega)
    have y1 : ExtB (X + 1) m2 (BM m4 (X + 1) (upI b.1 (170 + 17 * (r - b.1 2) + 4) 1) g4) := fun a ha h1 => by rw [BM_n h1]; exact hx4 a ha
    refine V.endS aX5_damage_29 gl_RX5_50 pa (by rw [upI_s]; exact q2.extB y1 (by omega)) dmgZ_b (Nat.le_of_ble_eq_true rfl) (by decide) (fun m3 h3 q3 q4 => ?_)
    refine V.iret aX5_damage_32 rfl (by decide) ?_
    refine ⟨rfl, hz26, _, h3, q3, fun i i0 i1 => ?_⟩
    rw [q4 i i0 i1, upI_s, recR_up hs i0]
  · exfalso
    omega
end
