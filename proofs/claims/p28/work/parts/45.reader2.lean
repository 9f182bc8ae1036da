-- the reader's orders
def RE (m : Mem) (sz rd ta Z t0 : Nat) (ln nn : Int) (f : Int → Option Nat) (P : PT) : PO := fun ret z m' => sz ≤ z ∧ ∃ m1, Ext m m1 ∧ m' = RM m1 rd ta ln nn P.2.1 f ∧ ((P.1 = 0 ∧ ret = some (.inr none)) ∨ (P.1 = 1 ∧ ∃ e, ret = some (.inr (some e)) ∧ AskR Z t0 m1 e P.2.2))
theorem digP_1 {tx : Int → Int} {ln l sp : Int} : (if seesP tx ln sp l (48 + 9) then tx sp - 48 else -5) = (digP tx ln l sp).1 := by
  unfold digP
  by_cases q : seesP tx ln sp l 57
  · rw [if_pos q, if_pos (show seesP tx ln sp l (48 + 9) from q)]
  · rw [if_neg q, if_neg (show ¬ seesP tx ln sp l (48 + 9) from q)]
theorem digP_2 {tx : Int → Int} {ln l sp : Int} : (if seesP tx ln sp l (48 + 9) then sp + 1 else sp) = (digP tx ln l sp).2 := by
  unfold digP
  by_cases q : seesP tx ln sp l 57
  · rw [if_pos q, if_pos (show seesP tx ln sp l (48 + 9) from q)]
  · rw [if_neg q, if_neg (show ¬ seesP tx ln sp l (48 + 9) from q)]
theorem mkF_ent {Z t0 : Nat} {m : Mem} {e : Nat} {page kind fr many v size : Int} {w h0 : Int → Int} (hk : kind = 1 ∨ kind = 2 ∨ kind = 3) (hs : size = if kind = 3 then 3 else 4) (ho : m e = obj 0 (fobj page kind fr (fr + many - 1) v t0 0 size)) (hz : m t0 = iar 0 h0) (hZ : Z ≤ e) : EntR Z t0 m e (mkF page kind fr many v w) 0 := by
  have a : ∀ j, 0 ≤ j → j < 17 → mkF page kind fr many v w j = if j = 5 then v else if j = 3 then many else if j = 2 then fr else if j = 1 then kind else if j = 0 then page else 0 := fun j j0 j1 => mkF_at ⟨j0, j1⟩
  have e0 : mkF page kind fr many v w 0 = page := a 0 (by decide) (by decide)
  have e1 : mkF page kind fr many v w (0 + 1) = kind := a 1 (by decide) (by decide)
  have e2 : mkF page kind fr many v w (0 + 2) = fr := a 2 (by decide) (by decide)
  have e3 : mkF page kind fr many v w (0 + 3) = many := a 3 (by decide) (by decide)
  have e4 : mkF page kind fr many v w (0 + 4) = 0 := a 4 (by decide) (by decide)
  have e5 : mkF page kind fr many v w (0 + 5) = v := a 5 (by decide) (by decide)
  have es : sizeA (mkF page kind fr many v w) 0 = size := by
    unfold sizeA
    rw [e1, if_neg (by omega), hs]
    by_cases q : kind = 3
    · rw [if_neg (by omega), if_pos q, if_pos q]
    · rw [if_pos (by omega), if_neg q]
  refine ⟨hZ, v, t0, 0, h0, ?_, Or.inr rfl, hz, fun _ _ => ⟨e5.symm, rfl⟩, fun q => ?_, fun q => ?_⟩
  · unfold eobj
    rw [e0, e1, e2, e3, e4, es]
    exact ho
  · rw [e1] at q; omega
  · rw [e1] at q; omega
section
variable {G : GX} {sz : Nat} {m : Mem} {rd ta Z t0 : Nat} {tx h0 : Int → Int} {ln nn st : Int} {f : Int → Option Nat}
theorem ok_readCells4 {page kind sign la : Int} (ht : m ta = car 60 tx) (hta : ta < rd) (hl : 0 ≤ ln ∧ ln ≤ 60) (hs : 0 ≤ st ∧ st ≤ ln) (hG : G.2.2.2 = t0) (hz : m t0 = iar 0 h0) (ht0 : t0 < rd) (hsz : rd + 2 ≤ sz ∧ Z ≤ sz) (hp : 0 ≤ page ∧ page < 6) (hk : kind = 1 ∧ la = 0 ∨ kind = 2 ∧ la = 1) : Ok G kX3_readCells 3 [.inr (some rd), .inl page, .inl kind, .inl sign, .inl la] sz (RM m rd ta ln nn st f) 1 8 (RE m sz rd ta Z t0 ln nn f (celP tx ln page kind sign (48 + la) Zr st)) := by
  refine Ok.body [some (.inr (some rd)), some (.inl page), some (.inl kind), some (.inl sign), some (.inl la), none, none, none] rfl (Nat.le_of_ble_eq_true rfl) (by decide) ?_
  refine V.knowS (fun hu _ => ?_)
  have hun : m sz = unk := by
    have := hu sz (Nat.le_refl _)
    rw [RM_n ⟨by omega, by omega⟩] at this
    exact this
  have hz2 : ∀ nn st f, (RM m rd ta ln nn st f) t0 = iar 0 h0 := fun nn st f => (RM_n ⟨by omega, by omega⟩).trans hz
  have b1 := numP_b (tx := tx) (ln := ln) (l := 48) (sp := st) (by omega) (by decide)
  refine V.ald0 aX3_readCells_0 ?_
  refine V.iconst aX3_readCells_1 (by decide) ?_
  refine call_X3_readNumber aX3_readCells_2 gl_RX3_47 (ok_readNumber ht hta hl (by omega)) (RM_o) (Nat.le_of_ble_eq_true rfl) (by decide) (goI ?_)
  rw [Int.add_zero]
  refine V.ist5 aX3_readCells_5 ?_
  refine V.ild5 aX3_readCells_7 ?_
  refine V.bipush aX3_readCells_9 (by decide) (by decide) ?_
  refine V.icmp_eq aX3_readCells_11 (tgt := 23) (by decide) (fun c11 => ?_) (fun c11 => ?_)
  · try rw [if_neg c20]
    refine V.null aX3_readCells_23 ?_
    refine V.aret aX3_readCells_24 rfl (Or.inl ⟨_, rfl⟩) (by decide) ?_
    refine ⟨Nat.le_refl _, m, Ext.rf, ?_, Or.inl ⟨?_, rfl⟩⟩ <;> unfold celP celP2 celP4
    · repeat' split
      all_goals first | (exfalso; omega) | rfl
    · repeat' split
      all_goals first | (exfalso; omega) | rfl
  · refine V.ald0 aX3_readCells_14 ?_
    refine V.bipush aX3_readCells_15 (by decide) (by decide) ?_
    refine call_X3_readSign aX3_readCells_17 gl_RX3_35 (ok_readSign ht hta hl (by omega)) (RM_o) (Nat.le_of_ble_eq_true rfl) (by decide) (goI ?_)
    refine V.ifb_ne aX3_readCells_20 (tgt := 25) (by decide) (fun c20 => ?_) (fun c20 => ?_)
    · rw [if_pos c20]
      have b2' := numP_b (tx := tx) (ln := ln) (l := 48) (sp := (numP tx ln 48 st).2 + 1) (by omega) (by decide)
      refine V.ald0 aX3_readCells_25 ?_
      refine V.iconst aX3_readCells_26 (by decide) ?_
      refine call_X3_readNumber aX3_readCells_27 gl_RX3_47 (ok_readNumber ht hta hl (by omega)) (RM_o) (Nat.le_of_ble_eq_true rfl) (by decide) (goI ?_)
      rw [Int.add_zero]
      refine V.ist6 aX3_readCells_30 ?_
      refine V.ild6 aX3_readCells_32 ?_
      refine V.bipush aX3_readCells_34 (by decide) (by decide) ?_
      refine V.icmp_eq aX3_readCells_36 (tgt := 58) (by decide) (fun c36 => ?_) (fun c36 => ?_)
      · refine V.ild6 aX3_readCells_58 ?_
        refine V.bipush aX3_readCells_60 (by decide) (by decide) ?_
        refine V.icmp_eq aX3_readCells_62 (tgt := 73) (by decide) (fun c62 => ?_) (fun c62 => ?_)
        · try rw [if_neg c70]
          refine V.null aX3_readCells_73 ?_
          refine V.aret aX3_readCells_74 rfl (Or.inl ⟨_, rfl⟩) (by decide) ?_
          refine ⟨Nat.le_refl _, m, Ext.rf, ?_, Or.inl ⟨?_, rfl⟩⟩ <;> unfold celP celP2 celP4
          · repeat' split
            all_goals first | (exfalso; omega) | rfl
          · repeat' split
            all_goals first | (exfalso; omega) | rfl
        · refine V.ald0 aX3_readCells_65 ?_
          refine V.ild3 aX3_readCells_66 ?_
          refine call_X3_readSign aX3_readCells_67 gl_RX3_35 (ok_readSign ht hta hl (by omega)) (RM_o) (Nat.le_of_ble_eq_true rfl) (by decide) (goI ?_)
          refine V.ifb_ne aX3_readCells_70 (tgt := 75) (by decide) (fun c70 => ?_) (fun c70 => ?_)
          · rw [if_pos c70]
            have b3 := digP_b (tx := tx) (ln := ln) (l := 48 + la) (sp := (numP tx ln 48 ((numP tx ln 48 st).2 + 1)).2 + 1) (by omega) (by omega)
            refine V.ald0 aX3_readCells_75 ?_
            refine V.ild4 aX3_readCells_76 ?_
            refine V.bipush aX3_readCells_78 (by decide) (by decide) ?_
            refine call_X3_readDigit aX3_readCells_80 gl_RX3_39 (ok_readDigit ht hta hl (by omega)) (RM_o) (Nat.le_of_ble_eq_true rfl) (by decide) (goI ?_)
            rw [digP_1, digP_2]
            refine V.ist7 aX3_readCells_83 ?_
            refine V.ild7 aX3_readCells_85 ?_
            refine V.bipush aX3_readCells_87 (by decide) (by decide) ?_
            refine V.icmp_ne aX3_readCells_89 (tgt := 96) (by decide) (fun c89 => ?_) (fun c89 => ?_)
            · refine V.ild1 aX3_readCells_96 ?_
              refine V.ild2 aX3_readCells_97 ?_
              refine V.ild5 aX3_readCells_98 ?_
              refine V.ild6 aX3_readCells_100 ?_
              refine V.ild7 aX3_readCells_102 ?_
              refine call_X0_ofCells aX3_readCells_104 gl_RX3_62 (ok_ofCells hG (hz2 _ _ _) (by omega) (by omega)) (Nat.le_of_ble_eq_true rfl) (by decide) (goR ?_)
              rw [RM_new hsz.1]
              refine V.aret aX3_readCells_107 rfl (Or.inl ⟨_, rfl⟩) (by decide) ?_
              have eP : celP tx ln page kind sign (48 + la) Zr st = (1, (digP tx ln (48 + la) ((numP tx ln 48 ((numP tx ln 48 st).2 + 1)).2 + 1)).2, mkF page kind (numP tx ln 48 st).1 ((numP tx ln 48 ((numP tx ln 48 st).2 + 1)).1 - (numP tx ln 48 st).1 + 1) (digP tx ln (48 + la) ((numP tx ln 48 ((numP tx ln 48 st).2 + 1)).2 + 1)).1 Zr) := by
                unfold celP
                rw [if_neg (by omega)]
                unfold celP2
                rw [if_pos c20, if_neg (by omega)]
                unfold celP4
                rw [if_neg (by omega), if_pos c70, if_pos (by omega)]
              rw [eP]
              refine ⟨by omega, _, Ext.new hun, rfl, Or.inr ⟨rfl, sz, rfl, Or.inl ⟨?_, ?_, ?_⟩⟩⟩
              · dsimp only
                rw [mkF_at (by decide)]
                simp
                omega
              · exact mkF_ok hp (by omega) (by omega) (by omega) (by omega) (by omega) (by omega)
              · refine mkF_ent (h0 := h0) (size := 4) (by omega) (by rw [if_neg (by omega)]) ?_ (by rw [upM_n (by omega)]; exact hz) hsz.2
                rw [upM_s]
                congr 6
                omega
            · refine V.null aX3_readCells_92 ?_
              refine V.goto aX3_readCells_93 (tgt := 107) (by decide) ?_
              refine V.aret aX3_readCells_107 rfl (Or.inl ⟨_, rfl⟩) (by decide) ?_
              refine ⟨Nat.le_refl _, m, Ext.rf, ?_, Or.inl ⟨?_, rfl⟩⟩ <;> unfold celP celP2 celP4
              · repeat' split
                all_goals first | (exfalso; omega) | rfl
              · repeat' split
                all_goals first | (exfalso; omega) | rfl
          · try rw [if_neg c70]
            refine V.null aX3_readCells_73 ?_
            refine V.aret aX3_readCells_74 rfl (Or.inl ⟨_, rfl⟩) (by decide) ?_
            refine ⟨Nat.le_refl _, m, Ext.rf, ?_, Or.inl ⟨?_, rfl⟩⟩ <;> unfold celP celP2 celP4
            · repeat' split
              all_goals first | (exfalso; omega) | rfl
            · repeat' split
              all_goals first | (exfalso; omega) | rfl
      · refine V.ild6 aX3_readCells_39 ?_
        refine V.ild5 aX3_readCells_41 ?_
        refine V.icmp_ge aX3_readCells_43 (tgt := 58) (by decide) (fun c43 => ?_) (fun c43 => ?_)
        · refine V.ild6 aX3_readCells_58 ?_
          refine V.bipush aX3_readCells_60 (by decide) (by decide) ?_
          refine V.icmp_eq aX3_readCells_62 (tgt := 73) (by decide) (fun c62 => ?_) (fun c62 => ?_)
          · try rw [if_neg c70]
            refine V.null aX3_readCells_73 ?_
            refine V.aret aX3_readCells_74 rfl (Or.inl ⟨_, rfl⟩) (by decide) ?_
            refine ⟨Nat.le_refl _, m, Ext.rf, ?_, Or.inl ⟨?_, rfl⟩⟩ <;> unfold celP celP2 celP4
            · repeat' split
              all_goals first | (exfalso; omega) | rfl
            · repeat' split
              all_goals first | (exfalso; omega) | rfl
          · refine V.ald0 aX3_readCells_65 ?_
            refine V.ild3 aX3_readCells_66 ?_
            refine call_X3_readSign aX3_readCells_67 gl_RX3_35 (ok_readSign ht hta hl (by omega)) (RM_o) (Nat.le_of_ble_eq_true rfl) (by decide) (goI ?_)
            refine V.ifb_ne aX3_readCells_70 (tgt := 75) (by decide) (fun c70 => ?_) (fun c70 => ?_)
            · rw [if_pos c70]
              have b3 := digP_b (tx := tx) (ln := ln) (l := 48 + la) (sp := (numP tx ln 48 ((numP tx ln 48 st).2 + 1)).2 + 1) (by omega) (by omega)
              refine V.ald0 aX3_readCells_75 ?_
              refine V.ild4 aX3_readCells_76 ?_
              refine V.bipush aX3_readCells_78 (by decide) (by decide) ?_
              refine call_X3_readDigit aX3_readCells_80 gl_RX3_39 (ok_readDigit ht hta hl (by omega)) (RM_o) (Nat.le_of_ble_eq_true rfl) (by decide) (goI ?_)
              rw [digP_1, digP_2]
              refine V.ist7 aX3_readCells_83 ?_
              refine V.ild7 aX3_readCells_85 ?_
              refine V.bipush aX3_readCells_87 (by decide) (by decide) ?_
              refine V.icmp_ne aX3_readCells_89 (tgt := 96) (by decide) (fun c89 => ?_) (fun c89 => ?_)
              · refine V.ild1 aX3_readCells_96 ?_
                refine V.ild2 aX3_readCells_97 ?_
                refine V.ild5 aX3_readCells_98 ?_
                refine V.ild6 aX3_readCells_100 ?_
                refine V.ild7 aX3_readCells_102 ?_
                refine call_X0_ofCells aX3_readCells_104 gl_RX3_62 (ok_ofCells hG (hz2 _ _ _) (by omega) (by omega)) (Nat.le_of_ble_eq_true rfl) (by decide) (goR ?_)
                rw [RM_new hsz.1]
                refine V.aret aX3_readCells_107 rfl (Or.inl ⟨_, rfl⟩) (by decide) ?_
                have eP : celP tx ln page kind sign (48 + la) Zr st = (1, (digP tx ln (48 + la) ((numP tx ln 48 ((numP tx ln 48 st).2 + 1)).2 + 1)).2, mkF page kind (numP tx ln 48 st).1 ((numP tx ln 48 ((numP tx ln 48 st).2 + 1)).1 - (numP tx ln 48 st).1 + 1) (digP tx ln (48 + la) ((numP tx ln 48 ((numP tx ln 48 st).2 + 1)).2 + 1)).1 Zr) := by
                  unfold celP
                  rw [if_neg (by omega)]
                  unfold celP2
                  rw [if_pos c20, if_neg (by omega)]
                  unfold celP4
                  rw [if_neg (by omega), if_pos c70, if_pos (by omega)]
                rw [eP]
                refine ⟨by omega, _, Ext.new hun, rfl, Or.inr ⟨rfl, sz, rfl, Or.inl ⟨?_, ?_, ?_⟩⟩⟩
                · dsimp only
                  rw [mkF_at (by decide)]
                  simp
                  omega
                · exact mkF_ok hp (by omega) (by omega) (by omega) (by omega) (by omega) (by omega)
                · refine mkF_ent (h0 := h0) (size := 4) (by omega) (by rw [if_neg (by omega)]) ?_ (by rw [upM_n (by omega)]; exact hz) hsz.2
                  rw [upM_s]
                  congr 6
                  omega
              · refine V.null aX3_readCells_92 ?_
                refine V.goto aX3_readCells_93 (tgt := 107) (by decide) ?_
                refine V.aret aX3_readCells_107 rfl (Or.inl ⟨_, rfl⟩) (by decide) ?_
                refine ⟨Nat.le_refl _, m, Ext.rf, ?_, Or.inl ⟨?_, rfl⟩⟩ <;> unfold celP celP2 celP4
                · repeat' split
                  all_goals first | (exfalso; omega) | rfl
                · repeat' split
                  all_goals first | (exfalso; omega) | rfl
            · try rw [if_neg c70]
              refine V.null aX3_readCells_73 ?_
              refine V.aret aX3_readCells_74 rfl (Or.inl ⟨_, rfl⟩) (by decide) ?_
              refine ⟨Nat.le_refl _, m, Ext.rf, ?_, Or.inl ⟨?_, rfl⟩⟩ <;> unfold celP celP2 celP4
              · repeat' split
                all_goals first | (exfalso; omega) | rfl
              · repeat' split
                all_goals first | (exfalso; omega) | rfl
        · refine V.ald0 aX3_readCells_46 ?_
          refine V.dup aX3_readCells_47 ?_
          refine V.getf aX3_readCells_48 fl_RX3_32 RM_o rfl ?_
          refine V.iconst aX3_readCells_51 (by decide) ?_
          refine V.isub aX3_readCells_52 (by omega) ?_
          refine V.putf aX3_readCells_53 fl_RX3_32 RM_o (Nat.le_of_ble_eq_true rfl) rfl rfl ?_
          refine V.mem RM_wst.symm ?_
          refine V.null aX3_readCells_56 ?_
          refine V.aret aX3_readCells_57 rfl (Or.inl ⟨_, rfl⟩) (by decide) ?_
          refine ⟨Nat.le_refl _, m, Ext.rf, ?_, Or.inl ⟨?_, rfl⟩⟩ <;> unfold celP celP2 celP4
          · repeat' split
            all_goals first | (exfalso; omega) | rfl
          · repeat' split
            all_goals first | (exfalso; omega) | rfl
    · try rw [if_neg c20]
      refine V.null aX3_readCells_23 ?_
      refine V.aret aX3_readCells_24 rfl (Or.inl ⟨_, rfl⟩) (by decide) ?_
      refine ⟨Nat.le_refl _, m, Ext.rf, ?_, Or.inl ⟨?_, rfl⟩⟩ <;> unfold celP celP2 celP4
      · repeat' split
        all_goals first | (exfalso; omega) | rfl
      · repeat' split
        all_goals first | (exfalso; omega) | rfl
end
