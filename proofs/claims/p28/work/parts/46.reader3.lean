-- the reader's rows
section
variable {G : GX} {sz : Nat} {m : Mem}
theorem ok_copyOf {a : Nat} {vf : Int → Int} {n : Int} (hv : m a = iar 12 vf) (hn : 1 ≤ n ∧ n ≤ 12) : Ok G kJ7_copyOf_59c91 1 [.inr (some a), .inl n] sz m 1 12 (fun ret z m' => ret = some (.inr (some sz)) ∧ z = sz + 1 ∧ ∃ vg : Int → Int, (∀ j, 0 ≤ j → j < n → vg j = vf j) ∧ m' = upM m sz (iar n.toNat vg)) := by
  refine Ok.body [some (.inr (some a)), some (.inl n), none] rfl (Nat.le_of_ble_eq_true rfl) (by decide) ?_
  refine V.knowB (a := a) (by rw [hv]; exact iar_nu) (fun hlt => ?_)
  have hv2 : ∀ x, upM m sz x a = iar 12 vf := fun x => (upM_n (by omega)).trans hv
  refine V.ild1 aJ7_copyOf_59c91_0 ?_
  refine V.ald0 aJ7_copyOf_59c91_1 ?_
  refine V.alen aJ7_copyOf_59c91_2 hv (by omega) ?_
  refine V.icmp_ne aJ7_copyOf_59c91_3 (tgt := 14) (by decide) (fun c3 => ?_) (fun c3 => ?_)
  · refine V.ild1 aJ7_copyOf_59c91_14 ?_
    refine V.newi aJ7_copyOf_59c91_15 (by omega) ⟨by decide, by show 0 + n.toNat ≤ 12; omega⟩ ?_
    refine V.ast2 aJ7_copyOf_59c91_17 ?_
    refine V.ald0 aJ7_copyOf_59c91_18 ?_
    refine V.iconst aJ7_copyOf_59c91_19 (by decide) ?_
    refine V.ald2 aJ7_copyOf_59c91_20 ?_
    refine V.iconst aJ7_copyOf_59c91_21 (by decide) ?_
    refine V.ald0 aJ7_copyOf_59c91_22 ?_
    refine V.alen aJ7_copyOf_59c91_23 (hv2 _) (by omega) ?_
    refine V.ild1 aJ7_copyOf_59c91_24 ?_
    refine V.mmin aJ7_copyOf_59c91_25 gl_RJ7_304 gi_RJ9 ⟨by decide, by show (4 : Nat) + 13 ≤ 40; decide, by decide, by show 0 + n.toNat ≤ 12; omega⟩ ?_
    rw [show min ((12 : Nat) : Int) n = n by omega]
    refine V.copy aJ7_copyOf_59c91_28 gl_RJ7_150 gi_RJ10 (hv2 _) upM_s (by omega) ⟨by decide, by decide, by omega, by omega, by omega⟩ (by decide) ?_
    rw [upM_upM]
    refine V.ald2 aJ7_copyOf_59c91_31 ?_
    refine V.aret aJ7_copyOf_59c91_32 rfl (Or.inr ⟨_, rfl⟩) (by first | decide | exact ⟨by decide, by show 0 + n.toNat ≤ 12; omega⟩) ?_
    refine ⟨rfl, rfl, _, fun j j0 j1 => ?_, rfl⟩
    rw [if_pos (by omega)]
    congr 1
    omega
  · refine V.ald0 aJ7_copyOf_59c91_6 ?_
    refine V.clone aJ7_copyOf_59c91_7 gl_RJ7_316 hv (by decide) (by decide) ?_
    refine V.castI aJ7_copyOf_59c91_10 gk_RJ7_317 upM_s (by decide) ?_
    refine V.aret aJ7_copyOf_59c91_13 rfl (Or.inr ⟨_, rfl⟩) (by first | decide | exact ⟨by decide, by show 0 + n.toNat ≤ 12; omega⟩) ?_
    exact ⟨rfl, rfl, vf, fun _ _ _ => rfl, by rw [show n.toNat = 12 by omega]⟩
end
theorem row_ent {Z t0 : Nat} {m : Mem} {e va nv : Nat} {w vg : Int → Int} (h0 : w 1 = 4) (h4 : w 4 = 0) (h3 : (nv : Int) = w 3 ∧ w 3 ≤ 12) (hv : ∀ j, 0 ≤ j → j < w 3 → vg j = w (5 + j)) (ho : m e = obj 0 (fobj (w 0) 4 (w 2) (w 2 + nv - 1) 0 va 0 (3 + nv))) (hz : m va = iar nv vg) (hZ : Z ≤ e ∧ Z ≤ va) : EntR Z t0 m e w 0 := by
  have e1 : w (0 + 1) = 4 := h0
  have e4 : w (0 + 4) = 0 := h4
  have e3 : w (0 + 3) = nv := h3.1.symm
  have es : sizeA w 0 = 3 + nv := by
    unfold sizeA
    rw [e1, if_neg (by decide), if_neg (by decide), if_neg (by decide), e3]
  refine ⟨hZ.1, 0, va, nv, vg, ?_, Or.inl hZ.2, hz, fun _ q => absurd e1 q, fun q => ?_, fun _ => ⟨⟨h3.1, h3.2⟩, fun j j0 j1 => ?_⟩⟩
  · unfold eobj
    rw [e1, e4, e3, es]
    exact ho
  · rw [e1] at q; exact absurd q (by decide)
  · have j1' : j < w 3 := j1
    rw [hv j j0 j1']
    congr 1
    all_goals omega
section
variable {G : GX} {sz : Nat} {m : Mem} {rd ta Z t0 : Nat} {tx h0 : Int → Int} {ln nn st : Int} {f : Int → Option Nat}
theorem ok_readRow4 {page : Int} (ht : m ta = car 60 tx) (hta : ta < rd) (hl : 0 ≤ ln ∧ ln ≤ 60) (hs : 0 ≤ st ∧ st ≤ ln) (hsz : rd + 2 ≤ sz ∧ Z ≤ sz) (hp : 0 ≤ page ∧ page < 6) : Ok G kX3_readRow 3 [.inr (some rd), .inl page] sz (RM m rd ta ln nn st f) 3 32 (RE m sz rd ta Z t0 ln nn f (rowP tx ln page Zr st)) := by
  refine Ok.body [some (.inr (some rd)), some (.inl page), none, none, none] rfl (Nat.le_of_ble_eq_true rfl) (by decide) ?_
  refine V.knowS (fun hu _ => ?_)
  have hun : ∀ a, sz ≤ a → m a = unk := fun a ha => by
    have := hu a ha
    rw [RM_n ⟨by omega, by omega⟩] at this
    exact this
  have b1 := numP_b (tx := tx) (ln := ln) (l := 48) (sp := st) (by omega) (by decide)
  have hok := rowP_ok (tx := tx) (ln := ln) (mk := Zr) hp hs.2
  have loop : ∀ (n fu : Nat) (w vs : Int → Int) (x a : Int), (ln - x).toNat < n → (0 ≤ a ∧ a ≤ 11) → (0 ≤ x ∧ x ≤ ln) → (w 0 = page ∧ w 1 = 4 ∧ w 2 = a ∧ w 4 = 0) → (0 ≤ w 3 ∧ w 3 ≤ 12 - a) → (∀ j, 0 ≤ j → j < 12 → vs j = w (5 + j)) → (12 - a - w 3).toNat < fu → rowP tx ln page Zr st = (if 0 < (rowL tx ln a fu w x).1 3 then 1 else 0, (rowL tx ln a fu w x).2, (rowL tx ln a fu w x).1) → V G kX3_readRow (rmM 3 3 32) (QfM G (RE m sz rd ta Z t0 ln nn f (rowP tx ln page Zr st)) 3 32) 31 [some (.inr (some rd)), some (.inl page), some (.inl a), some (.inr (some sz)), some (.inl (w 3))] [] (sz + 1) (RM (upM m sz (iar 12 vs)) rd ta ln nn x f) 1 12 := by
    intro n
    induction n with
    | zero => intro fu w vs x a h; omega
    | succ n ih =>
      intro fu w vs x a hn ha hx hw hw3 hvs hf hr
      obtain ⟨f', rfl⟩ : ∃ f', fu = f' + 1 := ⟨fu - 1, by omega⟩
      have ht1 : upM m sz (iar 12 vs) ta = car 60 tx := by rw [upM_n (by omega)]; exact ht
      have hv0 : ∀ nn st f, (RM (upM m sz (iar 12 vs)) rd ta ln nn st f) sz = iar 12 vs := fun nn st f => (RM_n ⟨by omega, by omega⟩).trans upM_s
      have fin : rowP tx ln page Zr st = (if 0 < w 3 then 1 else 0, x, w) → V G kX3_readRow (rmM 3 3 32) (QfM G (RE m sz rd ta Z t0 ln nn f (rowP tx ln page Zr st)) 3 32) 67 [some (.inr (some rd)), some (.inl page), some (.inl a), some (.inr (some sz)), some (.inl (w 3))] [] (sz + 1) (RM (upM m sz (iar 12 vs)) rd ta ln nn x f) 1 12 := by
        intro er
        refine V.ild4 aX3_readRow_67 ?_
        refine V.if_ne aX3_readRow_69 (tgt := 76) (by decide) (fun c69 => ?_) (fun c69 => ?_)
        · refine V.ild1 aX3_readRow_76 ?_
          refine V.ild2 aX3_readRow_77 ?_
          refine V.ald3 aX3_readRow_78 ?_
          refine V.ild4 aX3_readRow_79 ?_
          refine call_J7_copyOf_59c91 aX3_readRow_81 gl_RX3_70 (ok_copyOf (hv0 _ _ _) (by omega)) (Nat.le_of_ble_eq_true rfl) (by decide) (fun r81 z81 m81 p81 => ?_)
          obtain ⟨rfl, rfl, vg, hvg, rfl⟩ := p81
          rw [RM_new (by omega)]
          have hvz : (RM (upM (upM m sz (iar 12 vs)) (sz + 1) (iar (w 3).toNat vg)) rd ta ln nn x f) (sz + 1) = iar (w 3).toNat vg := (RM_n ⟨by omega, by omega⟩).trans upM_s
          refine call_X0_ofRow aX3_readRow_84 gl_RX3_76 (ok_ofRow hvz (by omega) (by omega) (by omega)) (Nat.le_of_ble_eq_true rfl) (by decide) (goR ?_)
          rw [RM_new (by omega)]
          refine V.aret aX3_readRow_87 rfl (Or.inl ⟨_, rfl⟩) (by decide) ?_
          have e1 : (rowP tx ln page Zr st).1 = 1 := by rw [er]; exact if_pos (by omega)
          have hk := hok e1
          rw [er] at hk
          refine ⟨by omega, upM (upM (upM m sz (iar 12 vs)) (sz + 1) (iar (w 3).toNat vg)) (sz + 1 + 1) (obj 0 (fobj page 4 a (a + (w 3).toNat - 1) 0 (sz + 1) 0 (3 + (w 3).toNat))), ?_, by rw [er], Or.inr ⟨e1, sz + 1 + 1, rfl, ?_⟩⟩
          · refine (Ext.new (hun sz (Nat.le_refl _))).tr ((Ext.new ?_).tr (Ext.new ?_))
            · rw [upM_n (by omega)]; exact hun _ (by omega)
            · rw [upM_n (by omega), upM_n (by omega)]; exact hun _ (by omega)
          · rw [er]
            refine Or.inl ⟨hk.2, hk.1, ?_⟩
            refine row_ent (w := w) hw.2.1 hw.2.2.2 (nv := (w 3).toNat) (vg := vg) (va := sz + 1) ⟨by omega, by omega⟩ (fun j j0 j1 => by rw [hvg j j0 j1]; exact hvs j j0 (by omega)) ?_ (by rw [upM_n (by omega), upM_s]) ⟨by omega, by omega⟩
            rw [upM_s, hw.1, hw.2.2.1]
        · refine V.null aX3_readRow_72 ?_
          refine V.goto aX3_readRow_73 (tgt := 87) (by decide) ?_
          refine V.aret aX3_readRow_87 rfl (Or.inl ⟨_, rfl⟩) (by decide) ?_
          rw [er]
          refine ⟨by omega, _, Ext.new (hun sz (Nat.le_refl _)), rfl, Or.inl ⟨?_, rfl⟩⟩
          exact if_neg (by omega)
      refine V.ild2 aX3_readRow_31 ?_
      refine V.ild4 aX3_readRow_32 ?_
      refine V.iadd aX3_readRow_34 (by omega) ?_
      refine V.bipush aX3_readRow_35 (by decide) (by decide) ?_
      refine V.icmp_ge aX3_readRow_37 (tgt := 67) (by decide) (fun c37 => ?_) (fun c37 => ?_)
      · exact fin (by rw [rowL_stop (by omega)] at hr; exact hr)
      · refine V.ald0 aX3_readRow_40 ?_
        refine V.iconst aX3_readRow_41 (by decide) ?_
        refine V.bipush aX3_readRow_42 (by decide) (by decide) ?_
        refine call_X3_hasDigit aX3_readRow_44 gl_RX3_66 (ok_hasDigit ht1 (by omega) hl (by omega)) (RM_o) (Nat.le_of_ble_eq_true rfl) (by decide) (goI ?_)
        refine V.ifb_eq aX3_readRow_47 (tgt := 67) (by decide) (fun c47 => ?_) (fun c47 => ?_)
        · exact fin (by rw [rowL_stop (by omega)] at hr; exact hr)
        · refine V.ald3 aX3_readRow_50 ?_
          refine V.ild4 aX3_readRow_51 ?_
          refine V.ald0 aX3_readRow_53 ?_
          refine V.iconst aX3_readRow_54 (by decide) ?_
          refine V.bipush aX3_readRow_55 (by decide) (by decide) ?_
          refine call_X3_readDigit aX3_readRow_57 gl_RX3_39 (ok_readDigit ht1 (by omega) hl (by omega)) (RM_o) (Nat.le_of_ble_eq_true rfl) (by decide) (goI ?_)
          rw [if_pos c47, if_pos c47]
          refine V.iast aX3_readRow_60 (hv0 _ _ _) (by omega) (by omega) ?_
          rw [RM_new (by omega), upM_upM]
          refine V.inc4 aX3_readRow_61 (by omega) ?_
          refine V.goto aX3_readRow_64 (tgt := 31) (by decide) ?_
          rw [rowL_go ⟨by omega, c47⟩] at hr
          have eu : upI (upI w (5 + w 3) (tx x - 48)) 3 (w 3 + 1) 3 = w 3 + 1 := upI_s
          have hh := ih f' (upI (upI w (5 + w 3) (tx x - 48)) 3 (w 3 + 1)) (upI vs (w 3) (tx x - 48)) (x + 1) a (by omega) ha (by omega) ⟨by rw [upI_n (by decide), upI_n (by omega)]; exact hw.1, by rw [upI_n (by decide), upI_n (by omega)]; exact hw.2.1, by rw [upI_n (by decide), upI_n (by omega)]; exact hw.2.2.1, by rw [upI_n (by decide), upI_n (by omega)]; exact hw.2.2.2⟩ (by rw [eu]; omega) (fun j j0 j1 => by
            rw [upI_n (show (5 : Int) + j ≠ 3 by omega)]
            by_cases q : j = w 3
            · rw [upI_eq q, upI_eq (by omega)]
            · rw [upI_n q, upI_n (by omega)]; exact hvs j j0 j1) (by rw [eu]; omega) hr
          rw [eu] at hh
          exact hh
  refine V.ald0 aX3_readRow_0 ?_
  refine V.iconst aX3_readRow_1 (by decide) ?_
  refine call_X3_readNumber aX3_readRow_2 gl_RX3_47 (ok_readNumber ht hta hl (by omega)) (RM_o) (Nat.le_of_ble_eq_true rfl) (by decide) (goI ?_)
  rw [Int.add_zero]
  refine V.ist2 aX3_readRow_5 ?_
  refine V.ild2 aX3_readRow_6 ?_
  refine V.bipush aX3_readRow_7 (by decide) (by decide) ?_
  refine V.icmp_eq aX3_readRow_9 (tgt := 21) (by decide) (fun c9 => ?_) (fun c9 => ?_)
  · try rw [if_neg c18]
    refine V.null aX3_readRow_21 ?_
    refine V.aret aX3_readRow_22 rfl (Or.inl ⟨_, rfl⟩) (by decide) ?_
    refine ⟨Nat.le_refl _, m, Ext.rf, ?_, Or.inl ⟨?_, rfl⟩⟩ <;> unfold rowP rowP2
    · repeat' split
      all_goals first | (exfalso; omega) | rfl
    · repeat' split
      all_goals first | (exfalso; omega) | rfl
  · refine V.ald0 aX3_readRow_12 ?_
    refine V.bipush aX3_readRow_13 (by decide) (by decide) ?_
    refine call_X3_readSign aX3_readRow_15 gl_RX3_35 (ok_readSign ht hta hl (by omega)) (RM_o) (Nat.le_of_ble_eq_true rfl) (by decide) (goI ?_)
    refine V.ifb_ne aX3_readRow_18 (tgt := 23) (by decide) (fun c18 => ?_) (fun c18 => ?_)
    · rw [if_pos c18]
      refine V.bipush aX3_readRow_23 (by decide) (by decide) ?_
      refine V.newi aX3_readRow_25 (by decide) (by decide) ?_
      rw [RM_new (by omega)]
      refine V.ast3 aX3_readRow_27 ?_
      refine V.iconst aX3_readRow_28 (by decide) ?_
      refine V.ist4 aX3_readRow_29 ?_
      have m3 : mkF page 4 (numP tx ln 48 st).1 0 0 Zr 3 = 0 := by rw [mkF_at (by decide)]; rfl
      have hh := loop _ 20 (mkF page 4 (numP tx ln 48 st).1 0 0 Zr) (fun _ => 0) ((numP tx ln 48 st).2 + 1) (numP tx ln 48 st).1 (Nat.lt_succ_self _) (by omega) (by omega) ⟨by rw [mkF_at (by decide)]; rfl, by rw [mkF_at (by decide)]; rfl, by rw [mkF_at (by decide)]; rfl, by rw [mkF_at (by decide)]; rfl⟩ (by rw [m3]; omega) (fun j j0 j1 => by rw [mkF_at (by omega)]; split; rfl; rw [if_neg (by omega), if_neg (by omega), if_neg (by omega), if_neg (by omega)]) (by rw [m3]; omega) (by unfold rowP rowP2; rw [if_neg (by omega), if_pos c18])
      rw [m3] at hh
      exact hh
    · try rw [if_neg c18]
      refine V.null aX3_readRow_21 ?_
      refine V.aret aX3_readRow_22 rfl (Or.inl ⟨_, rfl⟩) (by decide) ?_
      refine ⟨Nat.le_refl _, m, Ext.rf, ?_, Or.inl ⟨?_, rfl⟩⟩ <;> unfold rowP rowP2
      · repeat' split
        all_goals first | (exfalso; omega) | rfl
      · repeat' split
        all_goals first | (exfalso; omega) | rfl
end
