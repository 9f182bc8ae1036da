-- the reader's orders, one by one
theorem AskR.eq17 {Z t0 : Nat} {m : Mem} {e : Nat} {w v : Int → Int} (h : AskR Z t0 m e w) (q : Eq17 w v) : AskR Z t0 m e v := by
  rcases h with ⟨h1, h2, h3⟩ | ⟨h1, h2, h3, h4, h5⟩
  · exact Or.inl ⟨by rw [q 1 (by decide) (by decide)]; exact h1, q.ok h2, h3.congr (fun j j0 j1 => by rw [Int.zero_add]; exact q j j0 j1)⟩
  · exact Or.inr ⟨by rw [q 1 (by decide) (by decide)]; exact h1, by rw [q 0 (by decide) (by decide)]; exact h2, h3, by rw [q 0 (by decide) (by decide)]; exact h4, h5⟩
theorem RE.eq {m : Mem} {sz rd ta Z t0 : Nat} {ln nn : Int} {f : Int → Option Nat} {P Q : PT} (h : EqP P Q) {r : Option AV} {z : Nat} {m' : Mem} (hr : RE m sz rd ta Z t0 ln nn f P r z m') : RE m sz rd ta Z t0 ln nn f Q r z m' := by
  obtain ⟨h1, m1, h2, h3, h4⟩ := hr
  refine ⟨h1, m1, h2, by rw [h3, h.2.1], ?_⟩
  rcases h4 with ⟨g1, g2⟩ | ⟨g1, e, g2, g3⟩
  · exact Or.inl ⟨by rw [h.1]; exact g1, g2⟩
  · exact Or.inr ⟨by rw [h.1]; exact g1, e, g2, g3.eq17 (h.2.2 g1)⟩
section
variable {G : GX} {sz : Nat} {m : Mem} {rd ta Z t0 : Nat} {tx h0 : Int → Int} {ln nn st : Int} {f : Int → Option Nat}
theorem RE.ret {y : MK} {R : Room} {Qf : QF} {pc k n : Nat} {L : List (Option AV)} {S : List AV} {P : PT} {r : Option AV} {z : Nat} {m' : Mem} (h : RE m sz rd ta Z t0 ln nn f P r z m') (kk : ∀ (q : Option Nat), r = some (.inr q) → V G y R Qf pc L (.inr q :: S) z m' k n) : V G y R Qf pc L (r.toList ++ S) z m' k n := by
  obtain ⟨h1, m1, h2, h3, h4⟩ := h
  rcases h4 with ⟨g1, rfl⟩ | ⟨g1, e, rfl, g3⟩
  · exact kk _ rfl
  · exact kk _ rfl
theorem ok_readOrder4 (ht : m ta = car 60 tx) (hta : ta < rd) (hl : 0 ≤ ln ∧ ln ≤ 60) (hs : 0 ≤ st ∧ st ≤ ln) (hG : G.2.2.2 = t0) (hz : m t0 = iar 0 h0) (ht0 : t0 < rd) (hsz : rd + 2 ≤ sz ∧ Z ≤ sz) : Ok G kX3_readOrder 4 [.inr (some rd)] sz (RM m rd ta ln nn st f) 3 32 (RE m sz rd ta Z t0 ln nn f (ordP tx ln Zr st)) := by
  refine Ok.body [some (.inr (some rd)), none, none] rfl (Nat.le_of_ble_eq_true rfl) (by decide) ?_
  refine V.knowS (fun hu _ => ?_)
  have hun : m sz = unk := by
    have := hu sz (Nat.le_refl _)
    rw [RM_n ⟨by omega, by omega⟩] at this
    exact this
  have hz2 : ∀ nn st f, (RM m rd ta ln nn st f) t0 = iar 0 h0 := fun nn st f => (RM_n ⟨by omega, by omega⟩).trans hz
  by_cases c0 : seesP tx ln st 48 53
  · have e1 : (if seesP tx ln st (48 + 0) (48 + 5) then tx st - 48 else -5) = tx st - 48 := if_pos c0
    have e2 : (if seesP tx ln st (48 + 0) (48 + 5) then st + 1 else st) = st + 1 := if_pos c0
    have eO : ordP tx ln Zr st = ordP2 tx ln Zr (tx st - 48) (st + 1) := if_pos c0
    have hpg : 0 ≤ tx st - 48 ∧ tx st - 48 < 6 := by omega
    refine V.ald0 aX3_readOrder_0 ?_
    refine V.iconst aX3_readOrder_1 (by decide) ?_
    refine V.iconst aX3_readOrder_2 (by decide) ?_
    refine call_X3_readDigit aX3_readOrder_3 gl_RX3_39 (ok_readDigit ht hta hl (by omega)) (RM_o) (Nat.le_of_ble_eq_true rfl) (by decide) (goI ?_)
    rw [e1, e2]
    refine V.ist1 aX3_readOrder_6 ?_
    refine V.ild1 aX3_readOrder_7 ?_
    refine V.bipush aX3_readOrder_8 (by decide) (by decide) ?_
    refine V.icmp_ne aX3_readOrder_10 (tgt := 15) (by decide) (fun c10 => ?_) (fun c10 => ?_)
    · refine V.ald0 aX3_readOrder_15 ?_
      refine V.bipush aX3_readOrder_16 (by decide) (by decide) ?_
      refine call_X3_readSign aX3_readOrder_18 gl_RX3_35 (ok_readSign ht hta hl (by omega)) (RM_o) (Nat.le_of_ble_eq_true rfl) (by decide) (goI ?_)
      refine V.ifb_eq aX3_readOrder_21 (tgt := 34) (by decide) (fun c21 => ?_) (fun c21 => ?_)
      · rw [if_neg c21]
        refine V.ald0 aX3_readOrder_34 ?_
        refine V.bipush aX3_readOrder_35 (by decide) (by decide) ?_
        refine call_X3_readSign aX3_readOrder_37 gl_RX3_35 (ok_readSign ht hta hl (by omega)) (RM_o) (Nat.le_of_ble_eq_true rfl) (by decide) (goI ?_)
        refine V.ifb_eq aX3_readOrder_40 (tgt := 53) (by decide) (fun c40 => ?_) (fun c40 => ?_)
        · rw [if_neg c40]
          refine V.ald0 aX3_readOrder_53 ?_
          refine V.bipush aX3_readOrder_54 (by decide) (by decide) ?_
          refine call_X3_readSign aX3_readOrder_56 gl_RX3_35 (ok_readSign ht hta hl (by omega)) (RM_o) (Nat.le_of_ble_eq_true rfl) (by decide) (goI ?_)
          refine V.ifb_eq aX3_readOrder_59 (tgt := 84) (by decide) (fun c59 => ?_) (fun c59 => ?_)
          · rw [if_neg c59]
            refine V.ald0 aX3_readOrder_84 ?_
            refine V.bipush aX3_readOrder_85 (by decide) (by decide) ?_
            refine call_X3_readSign aX3_readOrder_87 gl_RX3_35 (ok_readSign ht hta hl (by omega)) (RM_o) (Nat.le_of_ble_eq_true rfl) (by decide) (goI ?_)
            refine V.ifb_eq aX3_readOrder_90 (tgt := 99) (by decide) (fun c90 => ?_) (fun c90 => ?_)
            · rw [if_neg c90]
              refine V.ald0 aX3_readOrder_99 ?_
              refine V.bipush aX3_readOrder_100 (by decide) (by decide) ?_
              refine call_X3_readSign aX3_readOrder_102 gl_RX3_35 (ok_readSign ht hta hl (by omega)) (RM_o) (Nat.le_of_ble_eq_true rfl) (by decide) (goI ?_)
              refine V.ifb_eq aX3_readOrder_105 (tgt := 115) (by decide) (fun c105 => ?_) (fun c105 => ?_)
              · rw [if_neg c105]
                refine V.null aX3_readOrder_115 ?_
                refine V.aret aX3_readOrder_116 rfl (Or.inl ⟨_, rfl⟩) (by decide) ?_
                have eP : ordP tx ln Zr st = (0, st + 1, mkF (tx st - 48) 0 0 12 0 Zr) := by rw [eO, ordP2, if_neg c21, if_neg c40, if_neg c59, if_neg c105, if_neg c90]
                rw [eP]
                exact ⟨Nat.le_refl _, m, Ext.rf, rfl, Or.inl ⟨rfl, rfl⟩⟩
              · refine V.ild1 aX3_readOrder_108 ?_
                rw [if_pos c105]
                refine call_X0_ofRenewal aX3_readOrder_109 gl_RX3_59 (ok_ofRenewal hG (hz2 _ _ _) (by omega)) (Nat.le_of_ble_eq_true rfl) (by decide) (goR ?_)
                rw [RM_new hsz.1]
                refine V.goto aX3_readOrder_112 (tgt := 116) (by decide) ?_
                refine V.aret aX3_readOrder_116 rfl (Or.inl ⟨_, rfl⟩) (by decide) ?_
                have eP : ordP tx ln Zr st = (1, st + 1 + 1, mkF (tx st - 48) 0 0 12 0 Zr) := by rw [eO, ordP2, if_neg c21, if_neg c40, if_neg c59, if_pos c105]
                have m0 : mkF (tx st - 48) 0 0 12 0 Zr 0 = tx st - 48 := mkF_at (j := 0) (by decide)
                have m1 : mkF (tx st - 48) 0 0 12 0 Zr 1 = 0 := mkF_at (j := 1) (by decide)
                rw [eP]
                refine ⟨by omega, _, Ext.new hun, rfl, Or.inr ⟨rfl, sz, rfl, Or.inr ⟨m1, ?_, hsz.2, ?_, h0, by rw [upM_n (by omega)]; exact hz⟩⟩⟩
                · dsimp only; rw [m0]; exact hpg
                · dsimp only; rw [m0, upM_s]
            · rw [if_pos c90]
              refine V.ald0 aX3_readOrder_93 ?_
              refine V.ild1 aX3_readOrder_94 ?_
              refine call_X3_readRow aX3_readOrder_95 gl_RX3_55 (ok_readRow4 (t0 := t0) ht hta hl (by omega) hsz hpg) (RM_o) (Nat.le_of_ble_eq_true rfl) (by decide) (fun r95 z95 m95 h95 => ?_)
              refine h95.ret (fun q hq => ?_)
              have eP : ordP tx ln Zr st = rowP tx ln (tx st - 48) (mkF (tx st - 48) 0 0 12 0 Zr) (st + 1 + 1) := by rw [eO, ordP2, if_neg c21, if_neg c40, if_neg c59, if_neg (by omega), if_pos c90]
              refine V.aret aX3_readOrder_98 rfl (Or.inl ⟨_, rfl⟩) (by decide) ?_
              rw [eP, ← hq]
              exact h95.eq (rowP_eq (by omega))
              skip
          · rw [if_pos c59]
            have b1 := numP_b (tx := tx) (ln := ln) (l := 49) (sp := st + 1 + 1) (by omega) (by decide)
            refine V.ald0 aX3_readOrder_62 ?_
            refine V.iconst aX3_readOrder_63 (by decide) ?_
            refine call_X3_readNumber aX3_readOrder_64 gl_RX3_47 (ok_readNumber ht hta hl (by omega)) (RM_o) (Nat.le_of_ble_eq_true rfl) (by decide) (goI ?_)
            rw [show (48 : Int) + 1 = 49 from rfl]
            refine V.ist2 aX3_readOrder_67 ?_
            refine V.ild2 aX3_readOrder_68 ?_
            refine V.bipush aX3_readOrder_69 (by decide) (by decide) ?_
            refine V.icmp_ne aX3_readOrder_71 (tgt := 78) (by decide) (fun c71 => ?_) (fun c71 => ?_)
            · refine V.ild1 aX3_readOrder_78 ?_
              refine V.ild2 aX3_readOrder_79 ?_
              refine call_X0_ofTurn aX3_readOrder_80 gl_RX3_51 (ok_ofTurn hG (hz2 _ _ _) (by omega)) (Nat.le_of_ble_eq_true rfl) (by decide) (goR ?_)
              rw [RM_new hsz.1]
              refine V.aret aX3_readOrder_83 rfl (Or.inl ⟨_, rfl⟩) (by decide) ?_
              have eP : ordP tx ln Zr st = (1, (numP tx ln 49 (st + 1 + 1)).2, mkF (tx st - 48) 3 0 12 (numP tx ln 49 (st + 1 + 1)).1 Zr) := by rw [eO, ordP2, if_neg c21, if_neg c40, if_pos c59, if_pos (by omega)]
              rw [eP]
              refine ⟨by omega, _, Ext.new hun, rfl, Or.inr ⟨rfl, sz, rfl, Or.inl ⟨?_, ?_, ?_⟩⟩⟩
              · dsimp only
                rw [mkF_at (by decide)]
                exact (show (3 : Int) ≠ 0 by decide)
              · exact mkF_ok hpg (by decide) (by omega) (by omega) (by omega) (by omega) (by omega)
              · exact mkF_ent (h0 := h0) (size := 3) (by decide) rfl upM_s (by rw [upM_n (by omega)]; exact hz) hsz.2
            · refine V.null aX3_readOrder_74 ?_
              refine V.goto aX3_readOrder_75 (tgt := 83) (by decide) ?_
              refine V.aret aX3_readOrder_83 rfl (Or.inl ⟨_, rfl⟩) (by decide) ?_
              have eP : ordP tx ln Zr st = (if 0 < (numP tx ln 49 (st + 1 + 1)).1 then 1 else 0, (numP tx ln 49 (st + 1 + 1)).2, mkF (tx st - 48) 3 0 12 (numP tx ln 49 (st + 1 + 1)).1 Zr) := by rw [eO, ordP2, if_neg c21, if_neg c40, if_pos c59]
              rw [eP]
              exact ⟨Nat.le_refl _, m, Ext.rf, rfl, Or.inl ⟨if_neg (by omega), rfl⟩⟩
        · rw [if_pos c40]
          refine V.ald0 aX3_readOrder_43 ?_
          refine V.ild1 aX3_readOrder_44 ?_
          refine V.iconst aX3_readOrder_45 (by decide) ?_
          refine V.bipush aX3_readOrder_46 (by decide) (by decide) ?_
          refine V.iconst aX3_readOrder_48 (by decide) ?_
          refine call_X3_readCells aX3_readOrder_49 gl_RX3_43 (ok_readCells4 ht hta hl (by omega) hG hz ht0 hsz hpg (by omega)) (RM_o) (Nat.le_of_ble_eq_true rfl) (by decide) (fun r49 z49 m49 h49 => ?_)
          refine h49.ret (fun q hq => ?_)
          have eP : ordP tx ln Zr st = celP tx ln (tx st - 48) 2 43 (48 + 1) Zr (st + 1 + 1) := by rw [eO, ordP2, if_neg c21, if_pos c40]; rfl
          refine V.aret aX3_readOrder_52 rfl (Or.inl ⟨_, rfl⟩) (by decide) ?_
          rw [eP, ← hq]
          exact h49
          skip
      · rw [if_pos c21]
        refine V.ald0 aX3_readOrder_24 ?_
        refine V.ild1 aX3_readOrder_25 ?_
        refine V.iconst aX3_readOrder_26 (by decide) ?_
        refine V.bipush aX3_readOrder_27 (by decide) (by decide) ?_
        refine V.iconst aX3_readOrder_29 (by decide) ?_
        refine call_X3_readCells aX3_readOrder_30 gl_RX3_43 (ok_readCells4 ht hta hl (by omega) hG hz ht0 hsz hpg (by omega)) (RM_o) (Nat.le_of_ble_eq_true rfl) (by decide) (fun r30 z30 m30 h30 => ?_)
        refine h30.ret (fun q hq => ?_)
        have eP : ordP tx ln Zr st = celP tx ln (tx st - 48) 1 61 (48 + 0) Zr (st + 1 + 1) := by rw [eO, ordP2, if_pos c21]; rfl
        refine V.aret aX3_readOrder_33 rfl (Or.inl ⟨_, rfl⟩) (by decide) ?_
        rw [eP, ← hq]
        exact h30
        skip
    · exfalso
      omega
  · have e1 : (if seesP tx ln st (48 + 0) (48 + 5) then tx st - 48 else -5) = -5 := if_neg c0
    have e2 : (if seesP tx ln st (48 + 0) (48 + 5) then st + 1 else st) = st := if_neg c0
    have eO : ordP tx ln Zr st = (0, st, Zr) := if_neg c0
    refine V.ald0 aX3_readOrder_0 ?_
    refine V.iconst aX3_readOrder_1 (by decide) ?_
    refine V.iconst aX3_readOrder_2 (by decide) ?_
    refine call_X3_readDigit aX3_readOrder_3 gl_RX3_39 (ok_readDigit ht hta hl (by omega)) (RM_o) (Nat.le_of_ble_eq_true rfl) (by decide) (goI ?_)
    rw [e1, e2]
    refine V.ist1 aX3_readOrder_6 ?_
    refine V.ild1 aX3_readOrder_7 ?_
    refine V.bipush aX3_readOrder_8 (by decide) (by decide) ?_
    refine V.icmp_ne aX3_readOrder_10 (tgt := 15) (by decide) (fun c10 => ?_) (fun c10 => ?_)
    · exact absurd rfl c10
    · refine V.null aX3_readOrder_13 ?_
      refine V.aret aX3_readOrder_14 rfl (Or.inl ⟨_, rfl⟩) (by decide) ?_
      rw [eO]
      exact ⟨Nat.le_refl _, m, Ext.rf, rfl, Or.inl ⟨rfl, rfl⟩⟩
end
