-- acts of the whole log (part twelve): a page renewed
section
variable {G : GX} {sz : Nat} {m m1 mb : Mem} {X Z t0 : Nat} {C D : Int} {b c : BS} {h : Int → Nat × BS} {sv ish ln : Int} {tx : Int → Int}
def renewed (X Z t0 : Nat) (mb : Mem) (C : Int) (s w : Int → Int) (h : Int → Nat × BS) (c : BS) (sv ish : Int) (tx : Int → Int) (ln : Int) (sz : Nat) : PO := fun ret z m' => (fits1 s (doMk s Zr w) → done X Z t0 mb (C + 1) (doS s Zr w) s h c sv ish tx ln (s 3) sz ret z m') ∧ (¬ fits1 s (doMk s Zr w) → undone X Z t0 mb C s h c sv ish tx ln (-3) sz ret z m')
theorem ok5_renew1 {r : Int} (hw : ¬ (0 ≤ r ∧ r ≤ 5)) : Ok G kX5_renew 6 [.inr (some X), .inl r] sz m 3 28 (PI (-1) sz m) := by
  refine Ok.body [some (.inr (some X)), some (.inl r), none] rfl (Nat.le_of_ble_eq_true rfl) (by decide) ?_
  refine V.ild1 aX5_renew_0 ?_
  refine call_X5_isPage aX5_renew_1 gl_RX5_27 (ok_isPage5) (Nat.le_of_ble_eq_true rfl) (by decide) (goI ?_)
  refine V.ifb_ne aX5_renew_4 (tgt := 9) (by decide) (fun c4 => ?_) (fun c4 => ?_)
  · exfalso
    omega
  · refine V.iconst aX5_renew_7 (by decide) ?_
    refine V.iret aX5_renew_8 rfl (by decide) ?_
    exact PI.of rfl
theorem ok5_renew2 {pg : Int} (p : PQ m X Z t0 mb C b h c sv ish tx ln) (hC : C + 1 ≤ 20000) (hG : G.2.2.2 = t0) (hsz : Z ≤ sz) (hw : 0 ≤ pg ∧ pg ≤ 5) : Ok G kX5_renew 6 [.inr (some X), .inl pg] sz m 3 28 (renewed X Z t0 mb C b.1 (mkF pg 0 0 12 0 Zr) h c sv ish tx ln sz) := by
  refine Ok.body [some (.inr (some X)), some (.inl pg), none] rfl (Nat.le_of_ble_eq_true rfl) (by decide) ?_
  have hs := p.sv_b
  have hn := p.2.1.2.num
  have m0 : mkF pg 0 0 12 0 Zr 0 = pg := mkF_at (j := 0) (by decide)
  have m1' : mkF pg 0 0 12 0 Zr 1 = 0 := mkF_at (j := 1) (by decide)
  obtain ⟨w, hwd⟩ : ∃ w, w = mkF pg 0 0 12 0 Zr := ⟨_, rfl⟩
  rw [← hwd] at m0 m1' ⊢
  refine V.ild1 aX5_renew_0 ?_
  refine call_X5_isPage aX5_renew_1 gl_RX5_27 (ok_isPage5) (Nat.le_of_ble_eq_true rfl) (by decide) (goI ?_)
  refine V.ifb_ne aX5_renew_4 (tgt := 9) (by decide) (fun c4 => ?_) (fun c4 => ?_)
  · refine V.ald0 aX5_renew_9 ?_
    refine V.beg aX5_renew_10 gl_RX5_37 p (Nat.le_of_ble_eq_true rfl) (by decide) (fun m2 g2 q1 q2 => ?_)
    have p9 := q1.1.2.2.2.2.2.2.2.2.1
    refine V.knowS (fun hu _ => ?_)
    obtain ⟨h0, hz0⟩ := q1.1.2.2.2.1
    have eb := q1.1.2.2.2.2.1.1.eq
    refine V.ald0 aX5_renew_13 ?_
    refine V.getf aX5_renew_14 fl_RX5_12 q1.1.1 rfl ?_
    refine V.mem (m2 := BM m2 (X + 1) b.1 b.2) eb.symm ?_
    refine U.gfS aX5_renew_17 fl_RX5_58 rfl ?_
    refine call_X1_next aX5_renew_20 gl_RX5_62 (ok_next q1.2.1.2.N) (BM_L) (Nat.le_of_ble_eq_true rfl) (by decide) (goI ?_)
    refine V.ist2 aX5_renew_23 ?_
    refine V.mem (m2 := m2) eb ?_
    refine V.ald0 aX5_renew_24 ?_
    refine V.ald0 aX5_renew_25 ?_
    refine V.getf aX5_renew_26 fl_RX5_12 q1.1.1 rfl ?_
    refine V.ild1 aX5_renew_29 ?_
    refine call_X0_ofRenewal aX5_renew_30 gl_RX5_68 (ok_ofRenewal hG hz0 (by omega)) (Nat.le_of_ble_eq_true rfl) (by decide) (goR ?_)
    have hx : Ext m2 (upM m2 sz (obj 0 (fobj pg 0 0 11 0 t0 0 4))) := Ext.new (hu sz (Nat.le_refl _))
    have hA : AskR Z t0 (upM m2 sz (obj 0 (fobj pg 0 0 11 0 t0 0 4))) sz w := Or.inr ⟨m1', by omega, hsz, by rw [upM_s, m0], h0, hx.at hz0 iar_nu⟩
    refine V.mem (m2 := BM (upM m2 sz (obj 0 (fobj pg 0 0 11 0 t0 0 4))) (X + 1) b.1 b.2) (q1.1.2.2.2.2.1.1.extB (B := X + 134) (fun a h0 _ => hx a h0) (by omega)).eq.symm ?_
    refine call_X4_carryOut aX5_renew_33 gl_RX5_46 (ok_carry hA q1.2.1.2 hC (q1.2.1.1.ext hx) (q1.1.2.2.2.2.1.2.ext hx) ⟨by omega, by omega⟩ (by omega)) (BM_S) (Nat.le_of_ble_eq_true rfl) (by decide) (fun r33 z33 m33 h33 => ?_)
    obtain ⟨hz33, hpc⟩ := h33
    by_cases hf : fits1 b.1 (doMk b.1 Zr w)
    · rw [if_pos hf] at hpc
      obtain ⟨rfl, m4, g4, hx4, rfl, tR, tS⟩ := hpc
      have pa := q1.act (m1 := m4) (D := C + 1) (hx.tr hx4) tR tS (q1.2.1.2.does Zr hC hA.ok hA.pg) (by omega)
      have y1 : ExtB (X + 1) m2 (BM m4 (X + 1) (doS b.1 Zr w) g4) := fun a ha h1 => by rw [BM_n h1]; exact (hx.tr hx4) a ha
      have hk := (doMk_ok (s := b.1) (cl := Zr) (mk := w) q1.2.1.2.C hA.ok hA.pg).2.1
      rw [show (0 : Int) + 1 = 1 from rfl] at hk
      refine V.bipush aX5_renew_36 (by decide) (by decide) ?_
      refine V.icmp_ne aX5_renew_38 (tgt := 46) (by decide) (fun c38 => ?_) (fun c38 => by omega)
      refine V.ild2 aX5_renew_46 ?_
      refine V.endS aX5_renew_47 gl_RX5_50 pa (by rw [upI_s]; exact (q2.extB y1 (by omega)).mono (by omega)) (by omega) (Nat.le_of_ble_eq_true rfl) (by decide) (fun m3 h3 q3 q4 => ?_)
      refine V.iret aX5_renew_50 rfl (by decide) ?_
      refine ⟨fun _ => ⟨rfl, by omega, _, h3, q3, fun i i0 i1 => ?_⟩, fun q => absurd hf q⟩
      rw [q4 i i0 i1, upI_s, recR_up hs i0]
    · rw [if_neg hf] at hpc
      obtain ⟨rfl, m4, s4, g4, hx4, rfl⟩ := hpc
      refine V.bipush aX5_renew_36 (by decide) (by decide) ?_
      refine V.icmp_ne aX5_renew_38 (tgt := 46) (by decide) (fun c38 => absurd rfl c38) (fun c38 => ?_)
      refine V.bipush aX5_renew_41 (by decide) (by decide) ?_
      refine V.goto aX5_renew_43 (tgt := 47) (by decide) ?_
      refine V.endF aX5_renew_47 gl_RX5_50 q1 (by rw [upI_s]; exact q2) (hx.tr hx4) (by decide) (Nat.le_of_ble_eq_true rfl) (by decide) (fun m3 g3 q3 => ?_)
      refine V.iret aX5_renew_50 rfl (by decide) ?_
      rw [upI_s] at q3
      exact ⟨fun q => absurd q hf, fun _ => ⟨rfl, by omega, g3, _, q3, fun i i0 i1 => by rw [upI_n (by omega)]⟩⟩
    skip
  · exfalso
    omega
end
