-- what the whole log tells (part four): forecasts and pages as they were
section
variable {G : GX} {sz : Nat} {m m1 mb : Mem} {X Z t0 : Nat} {C D : Int} {b c : BS} {h : Int → Nat × BS} {sv ish ln : Int} {tx : Int → Int}
def kept (X Z t0 : Nat) (mb : Mem) (C : Int) (b : BS) (h : Int → Nat × BS) (c : BS) (sv ish : Int) (tx : Int → Int) (ln a : Int) (sz : Nat) : PO := fun ret z m' => ret = some (.inl a) ∧ sz ≤ z ∧ PQ m' X Z t0 mb C b h c sv ish tx ln
theorem ok5_would1 {r v : Int} (hw : ¬ (0 ≤ r ∧ r ≤ 5)) : Ok G kX5_wouldLog 4 [.inr (some X), .inl r, .inl v] sz m 2 20 (PI (-1) sz m) := by
  refine Ok.body [some (.inr (some X)), some (.inl r), some (.inl v), none] rfl (Nat.le_of_ble_eq_true rfl) (by decide) ?_
  refine V.ild1 aX5_wouldLog_0 ?_
  refine call_X5_isPage aX5_wouldLog_1 gl_RX5_27 (ok_isPage5) (Nat.le_of_ble_eq_true rfl) (by decide) (goI ?_)
  refine V.ifb_ne aX5_wouldLog_4 (tgt := 9) (by decide) (fun c4 => ?_) (fun c4 => ?_)
  · exfalso
    omega
  · refine V.iconst aX5_wouldLog_7 (by decide) ?_
    refine V.iret aX5_wouldLog_8 rfl (by decide) ?_
    exact PI.of rfl
theorem ok5_would2 {r v : Int} (hw : 0 ≤ r ∧ r ≤ 5) (hv : ¬ (0 ≤ v ∧ v ≤ 9)) : Ok G kX5_wouldLog 4 [.inr (some X), .inl r, .inl v] sz m 2 20 (PI (-2) sz m) := by
  refine Ok.body [some (.inr (some X)), some (.inl r), some (.inl v), none] rfl (Nat.le_of_ble_eq_true rfl) (by decide) ?_
  refine V.ild1 aX5_wouldLog_0 ?_
  refine call_X5_isPage aX5_wouldLog_1 gl_RX5_27 (ok_isPage5) (Nat.le_of_ble_eq_true rfl) (by decide) (goI ?_)
  refine V.ifb_ne aX5_wouldLog_4 (tgt := 9) (by decide) (fun c4 => ?_) (fun c4 => ?_)
  · refine V.ild2 aX5_wouldLog_9 ?_
    refine call_X5_isValue aX5_wouldLog_10 gl_RX5_34 (ok_isValue5) (Nat.le_of_ble_eq_true rfl) (by decide) (goI ?_)
    refine V.ifb_ne aX5_wouldLog_13 (tgt := 19) (by decide) (fun c13 => ?_) (fun c13 => ?_)
    · exfalso
      omega
    · refine V.bipush aX5_wouldLog_16 (by decide) (by decide) ?_
      refine V.iret aX5_wouldLog_18 rfl (by decide) ?_
      exact PI.of rfl
  · exfalso
    omega
theorem ok5_would3 {r v : Int} (p : PQ m X Z t0 mb C b h c sv ish tx ln) (hG : G.2.2.2 = t0) (hsz : Z ≤ sz) (hw : 0 ≤ r ∧ r ≤ 5) (hv : 0 ≤ v ∧ v ≤ 9) : Ok G kX5_wouldLog 4 [.inr (some X), .inl r, .inl v] sz m 2 20 (kept X Z t0 mb C b h c sv ish tx ln (chMk b.1 Zr (mkF r 1 0 12 v Zr) 1) sz) := by
  refine Ok.body [some (.inr (some X)), some (.inl r), some (.inl v), none] rfl (Nat.le_of_ble_eq_true rfl) (by decide) ?_
  have hM : entOK (mkF r 1 0 12 v Zr) 0 := mkF_ok (by omega) (by decide) (by omega) (by omega) (by omega) (by omega) (by omega)
  have hw0 : mkF r 1 0 12 v Zr 1 = 1 := mkF_at (by decide)
  have hw3 : (mkF r 1 0 12 v Zr 1 = 0 ∨ chIs b.1 Zr (mkF r 1 0 12 v Zr)) → chMk b.1 Zr (mkF r 1 0 12 v Zr) 1 = 0 := fun q => by
    unfold chMk
    rw [if_pos (q.resolve_left (by omega))]
    rfl
  have hw4 : ¬ (mkF r 1 0 12 v Zr 1 = 0 ∨ chIs b.1 Zr (mkF r 1 0 12 v Zr)) → chMk b.1 Zr (mkF r 1 0 12 v Zr) 1 = 1 := fun q => by
    unfold chMk
    rw [if_neg (fun g => q (Or.inr g))]
    exact hw0
  obtain ⟨w, hwd⟩ : ∃ w, w = mkF r 1 0 12 v Zr := ⟨_, rfl⟩
  rw [← hwd] at hM hw0 hw3 hw4 ⊢
  have p9 := p.1.2.2.2.2.2.2.2.2.1
  obtain ⟨h0, hz0⟩ := p.1.2.2.2.1
  have hZ : X + 1 + 22 ≤ Z := by omega
  refine V.knowS (fun hu _ => ?_)
  have hx : Ext m (upM m sz (obj 0 (fobj r 1 0 11 v t0 0 4))) := Ext.new (hu sz (Nat.le_refl _))
  have eb := (p.1.2.2.2.2.1.1.extB (B := X + 134) (fun a h0 _ => hx a h0) (by omega)).eq
  have hX : (BM (upM m sz (obj 0 (fobj r 1 0 11 v t0 0 4))) (X + 1) b.1 b.2) X = obj 5 (xobj X sv ish ln) := by rw [← eb, upM_n (by omega)]; exact p.1.1
  have hA : AskR Z t0 (upM m sz (obj 0 (fobj r 1 0 11 v t0 0 4))) sz w := by
    rw [hwd] at hM ⊢
    refine Or.inl ⟨by rw [mkF_at (by decide)]; exact (show (1 : Int) ≠ 0 by decide), hM, mkF_ent (h0 := h0) (size := 4) (by decide) rfl ?_ (hx.at hz0 iar_nu) hsz⟩
    rw [upM_s]
    rfl
  have hR := p.2.1.1.ext hx
  refine V.ild1 aX5_wouldLog_0 ?_
  refine call_X5_isPage aX5_wouldLog_1 gl_RX5_27 (ok_isPage5) (Nat.le_of_ble_eq_true rfl) (by decide) (goI ?_)
  refine V.ifb_ne aX5_wouldLog_4 (tgt := 9) (by decide) (fun c4 => ?_) (fun c4 => ?_)
  · refine V.ild2 aX5_wouldLog_9 ?_
    refine call_X5_isValue aX5_wouldLog_10 gl_RX5_34 (ok_isValue5) (Nat.le_of_ble_eq_true rfl) (by decide) (goI ?_)
    refine V.ifb_ne aX5_wouldLog_13 (tgt := 19) (by decide) (fun c13 => ?_) (fun c13 => ?_)
    · refine V.ild1 aX5_wouldLog_19 ?_
      refine V.iconst aX5_wouldLog_20 (by decide) ?_
      refine V.iconst aX5_wouldLog_21 (by decide) ?_
      refine V.bipush aX5_wouldLog_22 (by decide) (by decide) ?_
      refine V.ild2 aX5_wouldLog_24 ?_
      refine call_X0_ofCells aX5_wouldLog_25 gl_RX5_40 (ok_ofCells hG hz0 (by omega) (by omega)) (Nat.le_of_ble_eq_true rfl) (by decide) (goR ?_)
      refine V.mem (m2 := BM (upM m sz (obj 0 (fobj r 1 0 11 v t0 0 4))) (X + 1) b.1 b.2) eb.symm ?_
      refine V.ast3 aX5_wouldLog_28 ?_
      refine V.ald0 aX5_wouldLog_29 ?_
      refine V.getf aX5_wouldLog_30 fl_RX5_12 hX rfl ?_
      refine V.ald3 aX5_wouldLog_33 ?_
      refine V.ald0 aX5_wouldLog_34 ?_
      refine V.getf aX5_wouldLog_35 fl_RX5_12 hX rfl ?_
      refine V.ald3 aX5_wouldLog_38 ?_
      refine call_X4_rowBehind aX5_wouldLog_39 gl_RX5_200 (ok_row4 hA p.2.1.2.C ⟨by omega, by omega⟩ (by omega)) (BM_S) (Nat.le_of_ble_eq_true rfl) (by decide) (fun r39 z39 m39 h39 => ?_)
      obtain ⟨rfl, rfl, c', hc, rfl⟩ := h39
      have hx2 : Ext (upM m sz (obj 0 (fobj r 1 0 11 v t0 0 4))) (upM (upM m sz (obj 0 (fobj r 1 0 11 v t0 0 4))) (sz + 1) (iar 12 c')) := Ext.new (by rw [upM_n (by omega)]; exact hu _ (by omega))
      refine call_X4_isLoggedAsPicture aX5_wouldLog_42 gl_RX5_204 (ok_isLog (hA.ext hx2) hc p.2.1.2.N p.2.1.2.E (hR.ext hx2) p.2.1.2.P hZ ((BM_n (Or.inr (by omega))).trans upM_s)) (BM_S) (Nat.le_of_ble_eq_true rfl) (by decide) (goI ?_)
      refine V.ifb_eq aX5_wouldLog_45 (tgt := 52) (by decide) (fun c45 => ?_) (fun c45 => ?_)
      · have pa := p.act (hx.tr hx2) (hR.ext hx2) ((p.1.2.2.2.2.1.2.ext hx).ext hx2) p.2.1.2 ⟨Int.le_refl _, by have := p.2.1.2.num; omega⟩
        have := hw4 c45
        refine V.iconst aX5_wouldLog_52 (by decide) ?_
        refine V.iret aX5_wouldLog_53 rfl (by decide) ?_
        exact ⟨by rw [this], by omega, pa⟩
      · have pa := p.act (hx.tr hx2) (hR.ext hx2) ((p.1.2.2.2.2.1.2.ext hx).ext hx2) p.2.1.2 ⟨Int.le_refl _, by have := p.2.1.2.num; omega⟩
        have := hw3 c45
        refine V.iconst aX5_wouldLog_48 (by decide) ?_
        refine V.goto aX5_wouldLog_49 (tgt := 53) (by decide) ?_
        refine V.iret aX5_wouldLog_53 rfl (by decide) ?_
        exact ⟨by rw [this], by omega, pa⟩
    · exfalso
      omega
  · exfalso
    omega
theorem ok5_asOf1 {r e v : Int} (p : PQ m X Z t0 mb C b h c sv ish tx ln) (hw : ¬ (0 ≤ r ∧ r ≤ 5 ∧ b.1 2 ≤ e ∧ e ≤ b.1 3 - 1 ∧ 0 ≤ v ∧ v ≤ 11)) : Ok G kX5_asOf 5 [.inr (some X), .inl r, .inl e, .inl v] sz m 1 12 (PI (-1) sz m) := by
  refine Ok.body [some (.inr (some X)), some (.inl r), some (.inl e), some (.inl v), none] rfl (Nat.le_of_ble_eq_true rfl) (by decide) ?_
  have eb := p.1.2.2.2.2.1.1.eq
  have hN := p.2.1.2.N
  have hx : BM m (X + 1) b.1 b.2 X = obj 5 (xobj X sv ish ln) := (BM_n (Or.inl (by omega))).trans p.1.1
  refine V.mem (m2 := BM m (X + 1) b.1 b.2) eb.symm ?_
  refine V.ild1 aX5_asOf_0 ?_
  refine call_X5_isPage aX5_asOf_1 gl_RX5_27 (ok_isPage5) (Nat.le_of_ble_eq_true rfl) (by decide) (goI ?_)
  refine V.ifb_eq aX5_asOf_4 (tgt := 28) (by decide) (fun c4 => ?_) (fun c4 => ?_)
  · refine V.iconst aX5_asOf_28 (by decide) ?_
    refine V.iret aX5_asOf_29 rfl (by decide) ?_
    exact PI.of2 rfl eb.symm
  · refine V.ald0 aX5_asOf_7 ?_
    refine V.getf aX5_asOf_8 fl_RX5_12 hx rfl ?_
    refine U.gfS aX5_asOf_11 fl_RX5_58 rfl ?_
    refine V.ild2 aX5_asOf_14 ?_
    refine call_X1_holds aX5_asOf_15 gl_RX5_112 (ok_holds1 hN) (BM_L) (Nat.le_of_ble_eq_true rfl) (by decide) (goI ?_)
    refine V.ifb_eq aX5_asOf_18 (tgt := 28) (by decide) (fun c18 => ?_) (fun c18 => ?_)
    · refine V.iconst aX5_asOf_28 (by decide) ?_
      refine V.iret aX5_asOf_29 rfl (by decide) ?_
      exact PI.of2 rfl eb.symm
    · refine V.ild3 aX5_asOf_21 ?_
      refine call_X5_isCell aX5_asOf_22 gl_RX5_31 (ok_isCell5) (Nat.le_of_ble_eq_true rfl) (by decide) (goI ?_)
      refine V.ifb_ne aX5_asOf_25 (tgt := 30) (by decide) (fun c25 => ?_) (fun c25 => ?_)
      · exfalso
        omega
      · refine V.iconst aX5_asOf_28 (by decide) ?_
        refine V.iret aX5_asOf_29 rfl (by decide) ?_
        exact PI.of2 rfl eb.symm
theorem ok5_asOf2 {r e v : Int} (p : PQ m X Z t0 mb C b h c sv ish tx ln) (hsz : Z ≤ sz) (hw : 0 ≤ r ∧ r ≤ 5 ∧ b.1 2 ≤ e ∧ e ≤ b.1 3 - 1 ∧ 0 ≤ v ∧ v ≤ 11) : Ok G kX5_asOf 5 [.inr (some X), .inl r, .inl e, .inl v] sz m 1 12 (fun ret z m' => ((asA b.1 r e ∨ asBad b.1 r e) → kept X Z t0 mb C b h c sv ish tx ln (-4) sz ret z m') ∧ (¬ (asA b.1 r e ∨ asBad b.1 r e) → kept X Z t0 mb C b h c sv ish tx ln (asZ b.1 Zr r e v) sz ret z m')) := by
  refine Ok.body [some (.inr (some X)), some (.inl r), some (.inl e), some (.inl v), none] rfl (Nat.le_of_ble_eq_true rfl) (by decide) ?_
  have eb := p.1.2.2.2.2.1.1.eq
  have p9 := p.1.2.2.2.2.2.2.2.2.1
  have hn := p.2.1.2.num
  have hN := p.2.1.2.N
  have hx : BM m (X + 1) b.1 b.2 X = obj 5 (xobj X sv ish ln) := (BM_n (Or.inl (by omega))).trans p.1.1
  refine V.knowS (fun hu _ => ?_)
  have hxr : ∀ c' : Int → Int, Ext m (upM m sz (iar 12 c')) := fun c' => Ext.new (hu sz (Nat.le_refl _))
  have eb2 : ∀ c' : Int → Int, upM m sz (iar 12 c') = BM (upM m sz (iar 12 c')) (X + 1) b.1 b.2 := fun c' => (p.1.2.2.2.2.1.1.extB (B := X + 134) (fun a h0 _ => hxr c' a h0) (by omega)).eq
  have hX : ∀ c' : Int → Int, (BM (upM m sz (iar 12 c')) (X + 1) b.1 b.2) X = obj 5 (xobj X sv ish ln) := fun c' => by rw [← eb2 c', upM_n (by omega)]; exact p.1.1
  have pa : ∀ c' : Int → Int, PQ (BM (upM m sz (iar 12 c')) (X + 1) b.1 b.2) X Z t0 mb C b h c sv ish tx ln := fun c' => p.act (hxr c') (p.2.1.1.ext (hxr c')) (p.1.2.2.2.2.1.2.ext (hxr c')) p.2.1.2 ⟨Int.le_refl _, by omega⟩
  refine V.mem (m2 := BM m (X + 1) b.1 b.2) eb.symm ?_
  refine V.ild1 aX5_asOf_0 ?_
  refine call_X5_isPage aX5_asOf_1 gl_RX5_27 (ok_isPage5) (Nat.le_of_ble_eq_true rfl) (by decide) (goI ?_)
  refine V.ifb_eq aX5_asOf_4 (tgt := 28) (by decide) (fun c4 => ?_) (fun c4 => ?_)
  · exfalso
    omega
  · refine V.ald0 aX5_asOf_7 ?_
    refine V.getf aX5_asOf_8 fl_RX5_12 hx rfl ?_
    refine U.gfS aX5_asOf_11 fl_RX5_58 rfl ?_
    refine V.ild2 aX5_asOf_14 ?_
    refine call_X1_holds aX5_asOf_15 gl_RX5_112 (ok_holds1 hN) (BM_L) (Nat.le_of_ble_eq_true rfl) (by decide) (goI ?_)
    refine V.ifb_eq aX5_asOf_18 (tgt := 28) (by decide) (fun c18 => ?_) (fun c18 => ?_)
    · exfalso
      omega
    · refine V.ild3 aX5_asOf_21 ?_
      refine call_X5_isCell aX5_asOf_22 gl_RX5_31 (ok_isCell5) (Nat.le_of_ble_eq_true rfl) (by decide) (goI ?_)
      refine V.ifb_ne aX5_asOf_25 (tgt := 30) (by decide) (fun c25 => ?_) (fun c25 => ?_)
      · refine V.mem (m2 := m) eb ?_
        refine V.bipush aX5_asOf_30 (by decide) (by decide) ?_
        refine V.newi aX5_asOf_32 (by decide) ⟨by decide, by decide⟩ ?_
        refine V.mem (m2 := BM (upM m sz (iar 12 (fun _ => 0))) (X + 1) b.1 b.2) (eb2 _).symm ?_
        refine V.ast4 aX5_asOf_34 ?_
        refine V.ald0 aX5_asOf_36 ?_
        refine V.getf aX5_asOf_37 fl_RX5_12 (hX _) rfl ?_
        refine V.ild1 aX5_asOf_40 ?_
        refine V.ild2 aX5_asOf_41 ?_
        refine V.iconst aX5_asOf_42 (by decide) ?_
        refine V.iadd aX5_asOf_43 (by omega) ?_
        refine V.ald4 aX5_asOf_44 ?_
        refine call_X4_bringBackAsOf aX5_asOf_46 gl_RX5_196 (ok_back (C := C) (e := e) p.2.1.2 p.2.1.1 (by omega) (by omega) (by omega) (by omega) (hu sz (Nat.le_refl _)) hsz (fun j _ => rfl)) BM_S (Nat.le_of_ble_eq_true rfl) (by decide) (fun r46 z46 m46 h46 => ?_)
        obtain ⟨rfl, h1, h2⟩ := h46
        by_cases hb : asA b.1 r e ∨ asBad b.1 r e
        · obtain ⟨rfl, c', rfl⟩ := h1 hb
          refine V.if_eq aX5_asOf_49 (tgt := 59) (by decide) (fun _ => ?_) (fun q => absurd rfl q)
          refine V.bipush aX5_asOf_59 (by decide) (by decide) ?_
          refine V.iret aX5_asOf_61 rfl (by decide) ?_
          exact ⟨fun _ => ⟨rfl, Nat.le_succ _, pa c'⟩, fun g => absurd hb g⟩
        · obtain ⟨rfl, c', hc, rfl⟩ := h2 hb
          refine V.if_eq aX5_asOf_49 (tgt := 59) (by decide) (fun q => absurd q (by decide)) (fun _ => ?_)
          refine V.ald4 aX5_asOf_52 ?_
          refine V.ild3 aX5_asOf_54 ?_
          refine V.iald aX5_asOf_55 ((BM_n (Or.inr (by omega))).trans upM_s) (by omega) (by omega) ?_
          refine V.goto aX5_asOf_56 (tgt := 61) (by decide) ?_
          refine V.iret aX5_asOf_61 rfl (by decide) ?_
          exact ⟨fun g => absurd g hb, fun _ => ⟨by rw [hc v (by omega) (by omega)], Nat.le_succ _, pa c'⟩⟩
        skip
      · exfalso
        omega
end
