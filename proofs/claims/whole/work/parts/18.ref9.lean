-- the reference's methods: contracts (part nine): texts
abbrev seesP (tx : Int → Int) (ln sp l h : Int) : Prop := sp < ln ∧ l ≤ tx sp ∧ tx sp ≤ h
def numP (tx : Int → Int) (ln l sp : Int) : Int × Int := if seesP tx ln sp l 57 then (if tx sp - 48 = 1 ∧ seesP tx ln (sp + 1) 48 49 then (10 + tx (sp + 1) - 48, sp + 1 + 1) else (tx sp - 48, sp + 1)) else (-5, sp)
def digP (tx : Int → Int) (ln l sp : Int) : Int × Int := if seesP tx ln sp l 57 then (tx sp - 48, sp + 1) else (-5, sp)
abbrev PT : Type := Int × Int × (Int → Int)
def celP4 (tx : Int → Int) (ln page kind sign least : Int) (mk : Int → Int) (a b sp : Int) : PT :=
  if b < a then (0, sp - 1, mk) else if seesP tx ln sp sign sign then (if 0 ≤ (digP tx ln least (sp + 1)).1 then 1 else 0, (digP tx ln least (sp + 1)).2, mkF page kind a (b - a + 1) (digP tx ln least (sp + 1)).1 mk) else (0, sp, mkF page kind a (b - a + 1) (-5) mk)
def celP2 (tx : Int → Int) (ln page kind sign least : Int) (mk : Int → Int) (a sp : Int) : PT :=
  if seesP tx ln sp 45 45 then (if (numP tx ln 48 (sp + 1)).1 < 0 then (0, (numP tx ln 48 (sp + 1)).2, mk) else celP4 tx ln page kind sign least mk a (numP tx ln 48 (sp + 1)).1 (numP tx ln 48 (sp + 1)).2) else (0, sp, mk)
def celP (tx : Int → Int) (ln page kind sign least : Int) (mk : Int → Int) (sp : Int) : PT :=
  if (numP tx ln 48 sp).1 < 0 then (0, (numP tx ln 48 sp).2, mk) else celP2 tx ln page kind sign least mk (numP tx ln 48 sp).1 (numP tx ln 48 sp).2
def rowL (tx : Int → Int) (ln fr : Int) : Nat → (Int → Int) → Int → (Int → Int) × Int
  | 0, w, sp => (w, sp)
  | f + 1, w, sp => if w 3 < 12 - fr ∧ seesP tx ln sp 48 57 then rowL tx ln fr f (upI (upI w (5 + w 3) (tx sp - 48)) 3 (w 3 + 1)) (sp + 1) else (w, sp)
def rowP2 (tx : Int → Int) (ln page : Int) (mk : Int → Int) (a sp : Int) : PT :=
  if seesP tx ln sp 61 61 then (if 0 < (rowL tx ln a 20 (mkF page 4 a 0 0 mk) (sp + 1)).1 3 then 1 else 0, (rowL tx ln a 20 (mkF page 4 a 0 0 mk) (sp + 1)).2, (rowL tx ln a 20 (mkF page 4 a 0 0 mk) (sp + 1)).1) else (0, sp, mk)
def rowP (tx : Int → Int) (ln page : Int) (mk : Int → Int) (sp : Int) : PT :=
  if (numP tx ln 48 sp).1 < 0 then (0, (numP tx ln 48 sp).2, mk) else rowP2 tx ln page mk (numP tx ln 48 sp).1 (numP tx ln 48 sp).2
def ordP2 (tx : Int → Int) (ln : Int) (mk : Int → Int) (page sp : Int) : PT :=
  if seesP tx ln sp 102 102 then celP tx ln page 1 61 48 mk (sp + 1)
  else if seesP tx ln sp 97 97 then celP tx ln page 2 43 49 mk (sp + 1)
  else if seesP tx ln sp 116 116 then (if 0 < (numP tx ln 49 (sp + 1)).1 then 1 else 0, (numP tx ln 49 (sp + 1)).2, mkF page 3 0 12 (numP tx ln 49 (sp + 1)).1 mk)
  else if seesP tx ln sp 112 112 then (1, sp + 1, mkF page 0 0 12 0 mk)
  else if seesP tx ln sp 114 114 then rowP tx ln page (mkF page 0 0 12 0 mk) (sp + 1)
  else (0, sp, mkF page 0 0 12 0 mk)
def ordP (tx : Int → Int) (ln : Int) (mk : Int → Int) (sp : Int) : PT := if seesP tx ln sp 48 53 then ordP2 tx ln mk (tx sp - 48) (sp + 1) else (0, sp, mk)
theorem numP_b {tx : Int → Int} {ln l sp : Int} (h : sp ≤ ln) (hl : 48 ≤ l) : ((numP tx ln l sp).1 = -5 ∧ (numP tx ln l sp).2 = sp ∨ (0 ≤ (numP tx ln l sp).1 ∧ (numP tx ln l sp).1 ≤ 11 ∧ l - 48 ≤ (numP tx ln l sp).1 ∧ sp < (numP tx ln l sp).2)) ∧ sp ≤ (numP tx ln l sp).2 ∧ (numP tx ln l sp).2 ≤ ln := by
  unfold numP
  split
  · split
    · dsimp only
      omega
    · dsimp only
      omega
  · dsimp only
    omega
theorem digP_b {tx : Int → Int} {ln l sp : Int} (h : sp ≤ ln) (hl : 48 ≤ l) : ((digP tx ln l sp).1 = -5 ∧ (digP tx ln l sp).2 = sp ∨ (0 ≤ (digP tx ln l sp).1 ∧ (digP tx ln l sp).1 ≤ 9 ∧ l - 48 ≤ (digP tx ln l sp).1)) ∧ sp ≤ (digP tx ln l sp).2 ∧ (digP tx ln l sp).2 ≤ ln := by
  unfold digP
  split
  · dsimp only
    omega
  · dsimp only
    omega
theorem rowL_b {tx : Int → Int} {ln fr : Int} (hf : 0 ≤ fr ∧ fr ≤ 11) : ∀ (f : Nat) (mk : Int → Int) (sp : Int), sp ≤ ln → (0 ≤ mk 3 ∧ mk 3 ≤ 12 - fr) → (sp ≤ (rowL tx ln fr f mk sp).2 ∧ (rowL tx ln fr f mk sp).2 ≤ ln) ∧ 0 ≤ (rowL tx ln fr f mk sp).1 3 ∧ (rowL tx ln fr f mk sp).1 3 ≤ 12 - fr
  | 0, w, sp, h, h3 => ⟨⟨Int.le_refl _, h⟩, h3⟩
  | f + 1, w, sp, h, h3 => by
    unfold rowL
    split
    · have := rowL_b (tx := tx) (ln := ln) hf f (upI (upI w (5 + w 3) (tx sp - 48)) 3 (w 3 + 1)) (sp + 1) (by omega) (by rw [upI_s]; omega)
      exact ⟨⟨by omega, this.1.2⟩, this.2⟩
    · exact ⟨⟨Int.le_refl _, h⟩, h3⟩
section
variable {G : GX} {sz : Nat} {m : Mem} {o : Nat} {s sp pa sh tx cl bf mk : Int → Int} {sv ish ln st : Int}
theorem PI.of2 {z z2 : Int} {sz : Nat} {m m2 : Mem} (h : z = z2) (hm : m = m2) : PI z2 sz m2 (some (.inl z)) sz m := ⟨by rw [h], rfl, hm⟩
theorem ok_sees {l u : Int} (h0 : 0 ≤ st) (h1 : ln ≤ 60) : Ok G kX6_sees 1 [.inr (some o), .inl l, .inl u] sz (MM m o s sp pa sv sh ish tx ln cl bf mk st) 0 0 (PI (b2 (seesP tx ln st l u)) sz (MM m o s sp pa sv sh ish tx ln cl bf mk st)) := by
  refine Ok.body [some (.inr (some o)), some (.inl l), some (.inl u)] rfl (Nat.le_of_ble_eq_true rfl) (by decide) ?_
  refine V.ald0 aX6_sees_0 ?_
  refine M.gf aX6_sees_1 fl_RX6_137 rfl ?_
  refine V.ald0 aX6_sees_4 ?_
  refine M.gf aX6_sees_5 fl_RX6_134 rfl ?_
  refine V.icmp_ge aX6_sees_8 (tgt := 32) (by decide) (fun c8 => ?_) (fun c8 => ?_)
  · refine V.iconst aX6_sees_32 (by decide) ?_
    refine V.zret aX6_sees_33 rfl (by first | decide | exact b2_01 | omega) (by decide) ?_
    exact PI.of (by unfold b2; split <;> omega)
  · refine V.ald0 aX6_sees_11 ?_
    refine M.gf aX6_sees_12 fl_RX6_22 rfl ?_
    refine V.ald0 aX6_sees_15 ?_
    refine M.gf aX6_sees_16 fl_RX6_137 rfl ?_
    refine M.ldtx aX6_sees_19 (by omega) ?_
    refine V.ild1 aX6_sees_20 ?_
    refine V.ild2 aX6_sees_21 ?_
    refine call_X6_in aX6_sees_22 gl_RX6_35 (ok_in) (Nat.le_of_ble_eq_true rfl) (by decide) (goI ?_)
    refine V.ifb_eq aX6_sees_25 (tgt := 32) (by decide) (fun c25 => ?_) (fun c25 => ?_)
    · refine V.iconst aX6_sees_32 (by decide) ?_
      refine V.zret aX6_sees_33 rfl (by first | decide | exact b2_01 | omega) (by decide) ?_
      exact PI.of (by unfold b2; split <;> omega)
    · refine V.iconst aX6_sees_28 (by decide) ?_
      refine V.goto aX6_sees_29 (tgt := 33) (by decide) ?_
      refine V.zret aX6_sees_33 rfl (by first | decide | exact b2_01 | omega) (by decide) ?_
      exact PI.of (by unfold b2; split <;> omega)
theorem ok_takes {c : Int} (h0 : 0 ≤ st) (h1 : ln ≤ 60) : Ok G kX6_takes 2 [.inr (some o), .inl c] sz (MM m o s sp pa sv sh ish tx ln cl bf mk st) 0 0 (PI (b2 (seesP tx ln st c c)) sz (MM m o s sp pa sv sh ish tx ln cl bf mk (if seesP tx ln st c c then st + 1 else st))) := by
  refine Ok.body [some (.inr (some o)), some (.inl c), none] rfl (Nat.le_of_ble_eq_true rfl) (by decide) ?_
  refine M.know (fun hk => ?_)
  have hs : inR st := hk st (by simp [mobj])
  refine V.ald0 aX6_takes_0 ?_
  refine V.ild1 aX6_takes_1 ?_
  refine V.ild1 aX6_takes_2 ?_
  refine call_X6_sees aX6_takes_3 gl_RX6_140 (ok_sees (by omega) (by omega)) (MM_o) (Nat.le_of_ble_eq_true rfl) (by decide) (goI ?_)
  refine V.ist2 aX6_takes_6 ?_
  refine V.ald0 aX6_takes_7 ?_
  refine V.dup aX6_takes_8 ?_
  have hb := b2_01 (P := seesP tx ln st c c)
  refine M.gf aX6_takes_9 fl_RX6_137 rfl ?_
  refine V.ild2 aX6_takes_12 ?_
  refine V.if_eq aX6_takes_13 (tgt := 20) (by decide) (fun c13 => ?_) (fun c13 => ?_)
  · refine V.iconst aX6_takes_20 (by decide) ?_
    refine V.iadd aX6_takes_21 (by omega) ?_
    refine M.pfst aX6_takes_22 fl_RX6_137 ?_
    refine V.ild2 aX6_takes_25 ?_
    refine V.zret aX6_takes_26 rfl b2_01 (by decide) ?_
    have q := b2_eq c13
    exact PI.of2 rfl (by rw [if_neg q, Int.add_zero])
  · have q := b2_ne c13
    refine V.iconst aX6_takes_16 (by decide) ?_
    refine V.goto aX6_takes_17 (tgt := 21) (by decide) ?_
    refine V.iadd aX6_takes_21 (by omega) ?_
    refine M.pfst aX6_takes_22 fl_RX6_137 ?_
    refine V.ild2 aX6_takes_25 ?_
    refine V.zret aX6_takes_26 rfl b2_01 (by decide) ?_
    exact PI.of2 rfl (by rw [if_pos q])
theorem ok_number {l : Int} (h0 : 0 ≤ st ∧ st ≤ ln) (h1 : ln ≤ 60) (hl : 48 ≤ l) : Ok G kX6_number 2 [.inr (some o), .inl l] sz (MM m o s sp pa sv sh ish tx ln cl bf mk st) 0 0 (PI (numP tx ln l st).1 sz (MM m o s sp pa sv sh ish tx ln cl bf mk (numP tx ln l st).2)) := by
  refine Ok.body [some (.inr (some o)), some (.inl l), none] rfl (Nat.le_of_ble_eq_true rfl) (by decide) ?_
  refine M.kntx (fun hx => ?_)
  refine V.ald0 aX6_number_0 ?_
  refine V.ild1 aX6_number_1 ?_
  refine V.bipush aX6_number_2 (by decide) (by decide) ?_
  refine call_X6_sees aX6_number_4 gl_RX6_140 (ok_sees (by omega) (by omega)) (MM_o) (Nat.le_of_ble_eq_true rfl) (by decide) (goI ?_)
  refine V.ifb_ne aX6_number_7 (tgt := 13) (by decide) (fun c7 => ?_) (fun c7 => ?_)
  · have q0 := hx st (by omega) (by omega)
    refine V.ald0 aX6_number_13 ?_
    refine M.gf aX6_number_14 fl_RX6_22 rfl ?_
    refine V.ald0 aX6_number_17 ?_
    refine M.gf aX6_number_18 fl_RX6_137 rfl ?_
    refine M.ldtx aX6_number_21 (by omega) ?_
    refine V.bipush aX6_number_22 (by decide) (by decide) ?_
    refine V.isub aX6_number_24 (by omega) ?_
    refine V.ist2 aX6_number_25 ?_
    refine V.ald0 aX6_number_26 ?_
    refine V.dup aX6_number_27 ?_
    refine M.gf aX6_number_28 fl_RX6_137 rfl ?_
    refine V.iconst aX6_number_31 (by decide) ?_
    refine V.iadd aX6_number_32 (by omega) ?_
    refine M.pfst aX6_number_33 fl_RX6_137 ?_
    refine V.ild2 aX6_number_36 ?_
    refine V.iconst aX6_number_37 (by decide) ?_
    refine V.icmp_ne aX6_number_38 (tgt := 78) (by decide) (fun c38 => ?_) (fun c38 => ?_)
    · refine V.ild2 aX6_number_78 ?_
      refine V.iret aX6_number_79 rfl (by decide) ?_
      refine PI.of2 ?_ ?_ <;> unfold numP
      · repeat' split
        all_goals first | rfl | omega
      · repeat' split
        all_goals first | rfl | (exfalso; omega)
    · refine V.ald0 aX6_number_41 ?_
      refine V.bipush aX6_number_42 (by decide) (by decide) ?_
      refine V.bipush aX6_number_44 (by decide) (by decide) ?_
      refine call_X6_sees aX6_number_46 gl_RX6_140 (ok_sees (by omega) (by omega)) (MM_o) (Nat.le_of_ble_eq_true rfl) (by decide) (goI ?_)
      refine V.ifb_eq aX6_number_49 (tgt := 78) (by decide) (fun c49 => ?_) (fun c49 => ?_)
      · refine V.ild2 aX6_number_78 ?_
        refine V.iret aX6_number_79 rfl (by decide) ?_
        refine PI.of2 ?_ ?_ <;> unfold numP
        · repeat' split
          all_goals first | rfl | omega
        · repeat' split
          all_goals first | rfl | (exfalso; omega)
      · have q1 := hx (st + 1) (by omega) (by omega)
        refine V.bipush aX6_number_52 (by decide) (by decide) ?_
        refine V.ald0 aX6_number_54 ?_
        refine M.gf aX6_number_55 fl_RX6_22 rfl ?_
        refine V.ald0 aX6_number_58 ?_
        refine M.gf aX6_number_59 fl_RX6_137 rfl ?_
        refine M.ldtx aX6_number_62 (by omega) ?_
        refine V.iadd aX6_number_63 (by omega) ?_
        refine V.bipush aX6_number_64 (by decide) (by decide) ?_
        refine V.isub aX6_number_66 (by omega) ?_
        refine V.ist2 aX6_number_67 ?_
        refine V.ald0 aX6_number_68 ?_
        refine V.dup aX6_number_69 ?_
        refine M.gf aX6_number_70 fl_RX6_137 rfl ?_
        refine V.iconst aX6_number_73 (by decide) ?_
        refine V.iadd aX6_number_74 (by omega) ?_
        refine M.pfst aX6_number_75 fl_RX6_137 ?_
        refine V.ild2 aX6_number_78 ?_
        refine V.iret aX6_number_79 rfl (by decide) ?_
        refine PI.of2 ?_ ?_ <;> unfold numP
        · repeat' split
          all_goals first | rfl | omega
        · repeat' split
          all_goals first | rfl | (exfalso; omega)
  · refine V.bipush aX6_number_10 (by decide) (by decide) ?_
    refine V.iret aX6_number_12 rfl (by decide) ?_
    refine PI.of2 ?_ ?_ <;> unfold numP
    · repeat' split
      all_goals first | rfl | omega
    · repeat' split
      all_goals first | rfl | (exfalso; omega)
theorem ok_digit {l : Int} (h0 : 0 ≤ st ∧ st ≤ ln) (h1 : ln ≤ 60) : Ok G kX6_digit 2 [.inr (some o), .inl l] sz (MM m o s sp pa sv sh ish tx ln cl bf mk st) 0 0 (PI (digP tx ln l st).1 sz (MM m o s sp pa sv sh ish tx ln cl bf mk (digP tx ln l st).2)) := by
  refine Ok.body [some (.inr (some o)), some (.inl l)] rfl (Nat.le_of_ble_eq_true rfl) (by decide) ?_
  refine M.kntx (fun hx => ?_)
  refine V.ald0 aX6_digit_0 ?_
  refine V.ild1 aX6_digit_1 ?_
  refine V.bipush aX6_digit_2 (by decide) (by decide) ?_
  refine call_X6_sees aX6_digit_4 gl_RX6_140 (ok_sees (by omega) (by omega)) (MM_o) (Nat.le_of_ble_eq_true rfl) (by decide) (goI ?_)
  refine V.ifb_ne aX6_digit_7 (tgt := 13) (by decide) (fun c7 => ?_) (fun c7 => ?_)
  · have q0 := hx st (by omega) (by omega)
    refine V.ald0 aX6_digit_13 ?_
    refine V.dup aX6_digit_14 ?_
    refine M.gf aX6_digit_15 fl_RX6_137 rfl ?_
    refine V.iconst aX6_digit_18 (by decide) ?_
    refine V.iadd aX6_digit_19 (by omega) ?_
    refine M.pfst aX6_digit_20 fl_RX6_137 ?_
    refine V.ald0 aX6_digit_23 ?_
    refine M.gf aX6_digit_24 fl_RX6_22 rfl ?_
    refine V.ald0 aX6_digit_27 ?_
    refine M.gf aX6_digit_28 fl_RX6_137 rfl ?_
    refine V.iconst aX6_digit_31 (by decide) ?_
    refine V.isub aX6_digit_32 (by omega) ?_
    rw [show st + 1 - 1 = st by omega]
    refine M.ldtx aX6_digit_33 (by omega) ?_
    refine V.bipush aX6_digit_34 (by decide) (by decide) ?_
    refine V.isub aX6_digit_36 (by omega) ?_
    refine V.iret aX6_digit_37 rfl (by decide) ?_
    refine PI.of2 ?_ ?_ <;> unfold digP
    · repeat' split
      all_goals first | rfl | omega
    · repeat' split
      all_goals first | rfl | (exfalso; omega)
  · refine V.bipush aX6_digit_10 (by decide) (by decide) ?_
    refine V.iret aX6_digit_12 rfl (by decide) ?_
    refine PI.of2 ?_ ?_ <;> unfold digP
    · repeat' split
      all_goals first | rfl | omega
    · repeat' split
      all_goals first | rfl | (exfalso; omega)
end

