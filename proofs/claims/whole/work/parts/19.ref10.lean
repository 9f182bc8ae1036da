-- the reference's methods: contracts (part ten): orders
theorem celP_01 {tx : Int → Int} {ln page kind sign least : Int} {mk : Int → Int} {sp : Int} : (celP tx ln page kind sign least mk sp).1 = 0 ∨ (celP tx ln page kind sign least mk sp).1 = 1 := by
  unfold celP celP2 celP4
  repeat' split
  all_goals simp
theorem rowP_01 {tx : Int → Int} {ln page : Int} {mk : Int → Int} {sp : Int} : (rowP tx ln page mk sp).1 = 0 ∨ (rowP tx ln page mk sp).1 = 1 := by
  unfold rowP rowP2
  repeat' split
  all_goals simp
theorem ordP_01 {tx : Int → Int} {ln : Int} {mk : Int → Int} {sp : Int} : (ordP tx ln mk sp).1 = 0 ∨ (ordP tx ln mk sp).1 = 1 := by
  unfold ordP ordP2
  repeat' split
  all_goals first | exact celP_01 | exact rowP_01 | simp
theorem celP_b {tx : Int → Int} {ln page kind sign least : Int} {mk : Int → Int} {sp : Int} (h : sp ≤ ln) (hl : 48 ≤ least) : (sp ≤ (celP tx ln page kind sign least mk sp).2.1 ∧ (celP tx ln page kind sign least mk sp).2.1 ≤ ln) ∧ ((celP tx ln page kind sign least mk sp).1 ≠ 0 → sp < (celP tx ln page kind sign least mk sp).2.1) := by
  have b1 := numP_b (tx := tx) (l := 48) h (by decide)
  unfold celP
  split
  · dsimp only
    omega
  · unfold celP2
    split
    · have b2 := numP_b (tx := tx) (l := 48) (sp := (numP tx ln 48 sp).2 + 1) (ln := ln) (by omega) (by decide)
      split
      · dsimp only
        omega
      · unfold celP4
        split
        · dsimp only
          omega
        · split
          · have b3 := digP_b (tx := tx) (l := least) (sp := (numP tx ln 48 ((numP tx ln 48 sp).2 + 1)).2 + 1) (ln := ln) (by omega) hl
            dsimp only
            omega
          · dsimp only
            omega
    · dsimp only
      omega
theorem rowP_b {tx : Int → Int} {ln page : Int} {mk : Int → Int} {sp : Int} (h : sp ≤ ln) : (sp ≤ (rowP tx ln page mk sp).2.1 ∧ (rowP tx ln page mk sp).2.1 ≤ ln) ∧ ((rowP tx ln page mk sp).1 ≠ 0 → sp < (rowP tx ln page mk sp).2.1) := by
  have b1 := numP_b (tx := tx) (l := 48) h (by decide)
  unfold rowP
  split
  · dsimp only
    omega
  · unfold rowP2
    split
    · have b2 := rowL_b (tx := tx) (ln := ln) (fr := (numP tx ln 48 sp).1) (by omega) 20 (mkF page 4 (numP tx ln 48 sp).1 0 0 mk) ((numP tx ln 48 sp).2 + 1) (by omega) (by rw [mkF_at (by decide)]; simp; omega)
      dsimp only
      omega
    · dsimp only
      omega
theorem ordP_b {tx : Int → Int} {ln : Int} {mk : Int → Int} {sp : Int} (h : sp ≤ ln) : (sp ≤ (ordP tx ln mk sp).2.1 ∧ (ordP tx ln mk sp).2.1 ≤ ln) ∧ ((ordP tx ln mk sp).1 ≠ 0 → sp + 1 < (ordP tx ln mk sp).2.1) := by
  unfold ordP
  split
  · unfold ordP2
    split
    · have := celP_b (tx := tx) (ln := ln) (page := tx sp - 48) (kind := 1) (sign := 61) (least := 48) (mk := mk) (sp := sp + 1 + 1) (by omega) (by decide)
      omega
    · split
      · have := celP_b (tx := tx) (ln := ln) (page := tx sp - 48) (kind := 2) (sign := 43) (least := 49) (mk := mk) (sp := sp + 1 + 1) (by omega) (by decide)
        omega
      · split
        · have := numP_b (tx := tx) (ln := ln) (l := 49) (sp := sp + 1 + 1) (by omega) (by decide)
          dsimp only
          omega
        · split
          · dsimp only
            omega
          · split
            · have := rowP_b (tx := tx) (ln := ln) (page := tx sp - 48) (mk := mkF (tx sp - 48) 0 0 12 0 mk) (sp := sp + 1 + 1) (by omega)
              omega
            · dsimp only
              omega
  · dsimp only
    omega
theorem rowL_go {tx : Int → Int} {ln a : Int} {f : Nat} {w : Int → Int} {x : Int} (h : w 3 < 12 - a ∧ seesP tx ln x 48 57) : rowL tx ln a (f + 1) w x = rowL tx ln a f (upI (upI w (5 + w 3) (tx x - 48)) 3 (w 3 + 1)) (x + 1) := if_pos h
theorem rowL_stop {tx : Int → Int} {ln a : Int} {f : Nat} {w : Int → Int} {x : Int} (h : ¬ (w 3 < 12 - a ∧ seesP tx ln x 48 57)) : rowL tx ln a (f + 1) w x = (w, x) := if_neg h
def txtP (tx : Int → Int) (ln : Int) : Nat → (Int → Int) → Int → PT
  | 0, w, sp => (0, sp, w)
  | f + 1, w, sp => if (ordP tx ln w sp).1 = 0 then (0, (ordP tx ln w sp).2.1, (ordP tx ln w sp).2.2) else if seesP tx ln (ordP tx ln w sp).2.1 59 59 then txtP tx ln f (ordP tx ln w sp).2.2 ((ordP tx ln w sp).2.1 + 1) else (if (ordP tx ln w sp).2.1 = ln then 1 else 0, (ordP tx ln w sp).2.1, (ordP tx ln w sp).2.2)
section
variable {G : GX} {sz : Nat} {m : Mem} {o : Nat} {s sp pa sh tx cl bf mk : Int → Int} {sv ish ln st : Int}
theorem ok_readsCells {page kind sign least : Int} (h0 : 0 ≤ st ∧ st ≤ ln) (h1 : ln ≤ 60) (hl : 48 ≤ least) : Ok G kX6_readsCells 3 [.inr (some o), .inl page, .inl kind, .inl sign, .inl least] sz (MM m o s sp pa sv sh ish tx ln cl bf mk st) 0 0 (PI (celP tx ln page kind sign least mk st).1 sz (MM m o s sp pa sv sh ish tx ln cl bf (celP tx ln page kind sign least mk st).2.2 (celP tx ln page kind sign least mk st).2.1)) := by
  refine Ok.body [some (.inr (some o)), some (.inl page), some (.inl kind), some (.inl sign), some (.inl least), none, none, none] rfl (Nat.le_of_ble_eq_true rfl) (by decide) ?_
  have b1 := numP_b (tx := tx) (ln := ln) (l := 48) (sp := st) (by omega) (by decide)
  refine V.ald0 aX6_readsCells_0 ?_
  refine V.bipush aX6_readsCells_1 (by decide) (by decide) ?_
  refine call_X6_number aX6_readsCells_3 gl_RX6_144 (ok_number (by omega) (by omega) (by omega)) (MM_o) (Nat.le_of_ble_eq_true rfl) (by decide) (goI ?_)
  refine V.ist5 aX6_readsCells_6 ?_
  refine V.ild5 aX6_readsCells_8 ?_
  refine V.if_lt aX6_readsCells_10 (tgt := 22) (by decide) (fun c10 => ?_) (fun c10 => ?_)
  · try rw [if_neg c19]
    refine V.iconst aX6_readsCells_22 (by decide) ?_
    refine V.zret aX6_readsCells_23 rfl (by first | decide | exact b2_01 | omega) (by decide) ?_
    refine PI.of2 ?_ ?_ <;> unfold celP celP2 celP4
    · repeat' split
      all_goals first | rfl | omega
    · repeat' split
      all_goals first | rfl | (exfalso; omega)
  · refine V.ald0 aX6_readsCells_13 ?_
    refine V.bipush aX6_readsCells_14 (by decide) (by decide) ?_
    refine call_X6_takes aX6_readsCells_16 gl_RX6_148 (ok_takes (by omega) (by omega)) (MM_o) (Nat.le_of_ble_eq_true rfl) (by decide) (goI ?_)
    refine V.ifb_ne aX6_readsCells_19 (tgt := 24) (by decide) (fun c19 => ?_) (fun c19 => ?_)
    · rw [if_pos c19]
      have b2 := numP_b (tx := tx) (ln := ln) (l := 48) (sp := (numP tx ln 48 st).2 + 1) (by omega) (by decide)
      refine V.ald0 aX6_readsCells_24 ?_
      refine V.bipush aX6_readsCells_25 (by decide) (by decide) ?_
      refine call_X6_number aX6_readsCells_27 gl_RX6_144 (ok_number (by omega) (by omega) (by omega)) (MM_o) (Nat.le_of_ble_eq_true rfl) (by decide) (goI ?_)
      refine V.ist6 aX6_readsCells_30 ?_
      refine V.ild6 aX6_readsCells_32 ?_
      refine V.if_ge aX6_readsCells_34 (tgt := 39) (by decide) (fun c34 => ?_) (fun c34 => ?_)
      · refine V.ild6 aX6_readsCells_39 ?_
        refine V.ild5 aX6_readsCells_41 ?_
        refine V.icmp_ge aX6_readsCells_43 (tgt := 58) (by decide) (fun c43 => ?_) (fun c43 => ?_)
        · refine V.ald0 aX6_readsCells_58 ?_
          refine V.ild3 aX6_readsCells_59 ?_
          refine call_X6_takes aX6_readsCells_60 gl_RX6_148 (ok_takes (by omega) (by omega)) (MM_o) (Nat.le_of_ble_eq_true rfl) (by decide) (goI ?_)
          refine V.ifb_eq aX6_readsCells_63 (tgt := 75) (by decide) (fun c63 => ?_) (fun c63 => ?_)
          · rw [if_neg c63]
            refine V.bipush aX6_readsCells_75 (by decide) (by decide) ?_
            refine V.ist7 aX6_readsCells_77 ?_
            refine V.ald0 aX6_readsCells_79 ?_
            refine V.ild1 aX6_readsCells_80 ?_
            refine V.ild2 aX6_readsCells_81 ?_
            refine V.ild5 aX6_readsCells_82 ?_
            refine V.ild6 aX6_readsCells_84 ?_
            refine V.ild5 aX6_readsCells_86 ?_
            refine V.isub aX6_readsCells_88 (by omega) ?_
            refine V.iconst aX6_readsCells_89 (by decide) ?_
            refine V.iadd aX6_readsCells_90 (by omega) ?_
            refine V.ild7 aX6_readsCells_91 ?_
            refine call_X6_makes aX6_readsCells_93 gl_RX6_102 (ok_makes) (MM_o) (Nat.le_of_ble_eq_true rfl) (by decide) (goV ?_)
            refine V.ild7 aX6_readsCells_96 ?_
            refine V.if_lt aX6_readsCells_98 (tgt := 105) (by decide) (fun c98 => ?_) (fun c98 => ?_)
            · refine V.iconst aX6_readsCells_105 (by decide) ?_
              refine V.zret aX6_readsCells_106 rfl (by first | decide | exact b2_01 | omega) (by decide) ?_
              refine PI.of2 ?_ ?_ <;> unfold celP celP2 celP4
              · repeat' split
                all_goals first | rfl | omega
              · repeat' split
                all_goals first | rfl | (exfalso; omega)
            · refine V.iconst aX6_readsCells_101 (by decide) ?_
              refine V.goto aX6_readsCells_102 (tgt := 106) (by decide) ?_
              refine V.zret aX6_readsCells_106 rfl (by first | decide | exact b2_01 | omega) (by decide) ?_
              refine PI.of2 ?_ ?_ <;> unfold celP celP2 celP4
              · repeat' split
                all_goals first | rfl | omega
              · repeat' split
                all_goals first | rfl | (exfalso; omega)
          · rw [if_pos c63]
            have b3 := digP_b (tx := tx) (ln := ln) (l := least) (sp := (numP tx ln 48 ((numP tx ln 48 st).2 + 1)).2 + 1) (by omega) hl
            refine V.ald0 aX6_readsCells_66 ?_
            refine V.ild4 aX6_readsCells_67 ?_
            refine call_X6_digit aX6_readsCells_69 gl_RX6_152 (ok_digit (by omega) (by omega)) (MM_o) (Nat.le_of_ble_eq_true rfl) (by decide) (goI ?_)
            refine V.goto aX6_readsCells_72 (tgt := 77) (by decide) ?_
            refine V.ist7 aX6_readsCells_77 ?_
            refine V.ald0 aX6_readsCells_79 ?_
            refine V.ild1 aX6_readsCells_80 ?_
            refine V.ild2 aX6_readsCells_81 ?_
            refine V.ild5 aX6_readsCells_82 ?_
            refine V.ild6 aX6_readsCells_84 ?_
            refine V.ild5 aX6_readsCells_86 ?_
            refine V.isub aX6_readsCells_88 (by omega) ?_
            refine V.iconst aX6_readsCells_89 (by decide) ?_
            refine V.iadd aX6_readsCells_90 (by omega) ?_
            refine V.ild7 aX6_readsCells_91 ?_
            refine call_X6_makes aX6_readsCells_93 gl_RX6_102 (ok_makes) (MM_o) (Nat.le_of_ble_eq_true rfl) (by decide) (goV ?_)
            refine V.ild7 aX6_readsCells_96 ?_
            refine V.if_lt aX6_readsCells_98 (tgt := 105) (by decide) (fun c98 => ?_) (fun c98 => ?_)
            · refine V.iconst aX6_readsCells_105 (by decide) ?_
              refine V.zret aX6_readsCells_106 rfl (by first | decide | exact b2_01 | omega) (by decide) ?_
              refine PI.of2 ?_ ?_ <;> unfold celP celP2 celP4
              · repeat' split
                all_goals first | rfl | omega
              · repeat' split
                all_goals first | rfl | (exfalso; omega)
            · refine V.iconst aX6_readsCells_101 (by decide) ?_
              refine V.goto aX6_readsCells_102 (tgt := 106) (by decide) ?_
              refine V.zret aX6_readsCells_106 rfl (by first | decide | exact b2_01 | omega) (by decide) ?_
              refine PI.of2 ?_ ?_ <;> unfold celP celP2 celP4
              · repeat' split
                all_goals first | rfl | omega
              · repeat' split
                all_goals first | rfl | (exfalso; omega)
        · refine V.ald0 aX6_readsCells_46 ?_
          refine V.dup aX6_readsCells_47 ?_
          refine M.gf aX6_readsCells_48 fl_RX6_137 rfl ?_
          refine V.iconst aX6_readsCells_51 (by decide) ?_
          refine V.isub aX6_readsCells_52 (by omega) ?_
          refine M.pfst aX6_readsCells_53 fl_RX6_137 ?_
          refine V.iconst aX6_readsCells_56 (by decide) ?_
          refine V.zret aX6_readsCells_57 rfl (by first | decide | exact b2_01 | omega) (by decide) ?_
          refine PI.of2 ?_ ?_ <;> unfold celP celP2 celP4
          · repeat' split
            all_goals first | rfl | omega
          · repeat' split
            all_goals first | rfl | (exfalso; omega)
      · refine V.iconst aX6_readsCells_37 (by decide) ?_
        refine V.zret aX6_readsCells_38 rfl (by first | decide | exact b2_01 | omega) (by decide) ?_
        refine PI.of2 ?_ ?_ <;> unfold celP celP2 celP4
        · repeat' split
          all_goals first | rfl | omega
        · repeat' split
          all_goals first | rfl | (exfalso; omega)
    · try rw [if_neg c19]
      refine V.iconst aX6_readsCells_22 (by decide) ?_
      refine V.zret aX6_readsCells_23 rfl (by first | decide | exact b2_01 | omega) (by decide) ?_
      refine PI.of2 ?_ ?_ <;> unfold celP celP2 celP4
      · repeat' split
        all_goals first | rfl | omega
      · repeat' split
        all_goals first | rfl | (exfalso; omega)
theorem ok_readsRow {page : Int} (h0 : 0 ≤ st ∧ st ≤ ln) (h1 : ln ≤ 60) : Ok G kX6_readsRow 3 [.inr (some o), .inl page] sz (MM m o s sp pa sv sh ish tx ln cl bf mk st) 0 0 (PI (rowP tx ln page mk st).1 sz (MM m o s sp pa sv sh ish tx ln cl bf (rowP tx ln page mk st).2.2 (rowP tx ln page mk st).2.1)) := by
  refine Ok.body [some (.inr (some o)), some (.inl page), none] rfl (Nat.le_of_ble_eq_true rfl) (by decide) ?_
  have b1 := numP_b (tx := tx) (ln := ln) (l := 48) (sp := st) (by omega) (by decide)
  have loop : ∀ (n f : Nat) (w : Int → Int) (x a : Int), (ln - x).toNat < n → (0 ≤ a ∧ a ≤ 11) → (0 ≤ x ∧ x ≤ ln) → (0 ≤ w 3 ∧ w 3 ≤ 12 - a) → (12 - a - w 3).toNat < f → rowP tx ln page mk st = (if 0 < (rowL tx ln a f w x).1 3 then 1 else 0, (rowL tx ln a f w x).2, (rowL tx ln a f w x).1) → V G kX6_readsRow (rmM 3 0 0) (QfM G (PI (rowP tx ln page mk st).1 sz (MM m o s sp pa sv sh ish tx ln cl bf (rowP tx ln page mk st).2.2 (rowP tx ln page mk st).2.1)) 0 0) 31 [some (.inr (some o)), some (.inl page), some (.inl a)] [] sz (MM m o s sp pa sv sh ish tx ln cl bf w x) 0 0 := by
    intro n
    induction n with
    | zero => intro f w x a h; omega
    | succ n ih =>
      intro f w x a hn ha hx hw hf hr
      obtain ⟨f', rfl⟩ : ∃ f', f = f' + 1 := ⟨f - 1, by omega⟩
      refine V.ald0 aX6_readsRow_31 ?_
      refine M.gf aX6_readsRow_32 fl_RX6_32 rfl ?_
      refine V.iconst aX6_readsRow_35 (by decide) ?_
      refine M.ldmk aX6_readsRow_36 (by omega) ?_
      refine V.bipush aX6_readsRow_37 (by decide) (by decide) ?_
      refine V.ild2 aX6_readsRow_39 ?_
      refine V.isub aX6_readsRow_40 (by omega) ?_
      refine V.icmp_ge aX6_readsRow_41 (tgt := 87) (by decide) (fun c41 => ?_) (fun c41 => ?_)
      · rw [rowL_stop (by omega)] at hr
        refine V.ald0 aX6_readsRow_87 ?_
        refine M.gf aX6_readsRow_88 fl_RX6_32 rfl ?_
        refine V.iconst aX6_readsRow_91 (by decide) ?_
        refine M.ldmk aX6_readsRow_92 (by omega) ?_
        refine V.if_le aX6_readsRow_93 (tgt := 100) (by decide) (fun c93 => ?_) (fun c93 => ?_)
        · refine V.iconst aX6_readsRow_100 (by decide) ?_
          refine V.zret aX6_readsRow_101 rfl (by first | decide | exact b2_01 | omega) (by decide) ?_
          refine PI.of2 ?_ ?_
          · rw [hr]
            show _ = (if 0 < w 3 then (1 : Int) else 0)
            split <;> omega
          · rw [hr]
        · refine V.iconst aX6_readsRow_96 (by decide) ?_
          refine V.goto aX6_readsRow_97 (tgt := 101) (by decide) ?_
          refine V.zret aX6_readsRow_101 rfl (by first | decide | exact b2_01 | omega) (by decide) ?_
          refine PI.of2 ?_ ?_
          · rw [hr]
            show _ = (if 0 < w 3 then (1 : Int) else 0)
            split <;> omega
          · rw [hr]
      · refine V.ald0 aX6_readsRow_44 ?_
        refine V.bipush aX6_readsRow_45 (by decide) (by decide) ?_
        refine V.bipush aX6_readsRow_47 (by decide) (by decide) ?_
        refine call_X6_sees aX6_readsRow_49 gl_RX6_140 (ok_sees (by omega) (by omega)) (MM_o) (Nat.le_of_ble_eq_true rfl) (by decide) (goI ?_)
        refine V.ifb_eq aX6_readsRow_52 (tgt := 87) (by decide) (fun c52 => ?_) (fun c52 => ?_)
        · rw [rowL_stop (by omega)] at hr
          refine V.ald0 aX6_readsRow_87 ?_
          refine M.gf aX6_readsRow_88 fl_RX6_32 rfl ?_
          refine V.iconst aX6_readsRow_91 (by decide) ?_
          refine M.ldmk aX6_readsRow_92 (by omega) ?_
          refine V.if_le aX6_readsRow_93 (tgt := 100) (by decide) (fun c93 => ?_) (fun c93 => ?_)
          · refine V.iconst aX6_readsRow_100 (by decide) ?_
            refine V.zret aX6_readsRow_101 rfl (by first | decide | exact b2_01 | omega) (by decide) ?_
            refine PI.of2 ?_ ?_
            · rw [hr]
              show _ = (if 0 < w 3 then (1 : Int) else 0)
              split <;> omega
            · rw [hr]
          · refine V.iconst aX6_readsRow_96 (by decide) ?_
            refine V.goto aX6_readsRow_97 (tgt := 101) (by decide) ?_
            refine V.zret aX6_readsRow_101 rfl (by first | decide | exact b2_01 | omega) (by decide) ?_
            refine PI.of2 ?_ ?_
            · rw [hr]
              show _ = (if 0 < w 3 then (1 : Int) else 0)
              split <;> omega
            · rw [hr]
        · refine V.ald0 aX6_readsRow_55 ?_
          refine M.gf aX6_readsRow_56 fl_RX6_32 rfl ?_
          refine V.iconst aX6_readsRow_59 (by decide) ?_
          refine V.ald0 aX6_readsRow_60 ?_
          refine M.gf aX6_readsRow_61 fl_RX6_32 rfl ?_
          refine V.iconst aX6_readsRow_64 (by decide) ?_
          refine M.ldmk aX6_readsRow_65 (by omega) ?_
          refine V.iadd aX6_readsRow_66 (by omega) ?_
          refine V.ald0 aX6_readsRow_67 ?_
          refine V.bipush aX6_readsRow_68 (by decide) (by decide) ?_
          refine call_X6_digit aX6_readsRow_70 gl_RX6_152 (ok_digit (by omega) (by omega)) (MM_o) (Nat.le_of_ble_eq_true rfl) (by decide) (goI ?_)
          rw [show digP tx ln 48 x = (tx x - 48, x + 1) from if_pos c52]
          dsimp only
          refine M.stmk aX6_readsRow_73 (by omega) ?_
          refine V.ald0 aX6_readsRow_74 ?_
          refine M.gf aX6_readsRow_75 fl_RX6_32 rfl ?_
          refine V.iconst aX6_readsRow_78 (by decide) ?_
          refine V.dup2 aX6_readsRow_79 ?_
          refine M.ldmk aX6_readsRow_80 (by omega) ?_
          rw [upI_n (show (3 : Int) ≠ 5 + w 3 by omega)]
          refine V.iconst aX6_readsRow_81 (by decide) ?_
          refine V.iadd aX6_readsRow_82 (by omega) ?_
          refine M.stmk aX6_readsRow_83 (by omega) ?_
          refine V.goto aX6_readsRow_84 (tgt := 31) (by decide) ?_
          rw [rowL_go ⟨c41, c52⟩] at hr
          exact ih f' _ _ _ (by omega) ha (by omega) (by rw [upI_s]; omega) (by rw [upI_s]; omega) hr
  refine V.ald0 aX6_readsRow_0 ?_
  refine V.bipush aX6_readsRow_1 (by decide) (by decide) ?_
  refine call_X6_number aX6_readsRow_3 gl_RX6_144 (ok_number (by omega) (by omega) (by omega)) (MM_o) (Nat.le_of_ble_eq_true rfl) (by decide) (goI ?_)
  refine V.ist2 aX6_readsRow_6 ?_
  refine V.ild2 aX6_readsRow_7 ?_
  refine V.if_lt aX6_readsRow_8 (tgt := 20) (by decide) (fun c8 => ?_) (fun c8 => ?_)
  · try rw [if_neg c17]
    refine V.iconst aX6_readsRow_20 (by decide) ?_
    refine V.zret aX6_readsRow_21 rfl (by first | decide | exact b2_01 | omega) (by decide) ?_
    refine PI.of2 ?_ ?_ <;> unfold rowP rowP2
    · first | rw [if_pos c8] | rw [if_neg (show ¬ (numP tx ln 48 st).1 < 0 by omega), if_neg c17]
    · first | rw [if_pos c8] | rw [if_neg (show ¬ (numP tx ln 48 st).1 < 0 by omega), if_neg c17]
  · refine V.ald0 aX6_readsRow_11 ?_
    refine V.bipush aX6_readsRow_12 (by decide) (by decide) ?_
    refine call_X6_takes aX6_readsRow_14 gl_RX6_148 (ok_takes (by omega) (by omega)) (MM_o) (Nat.le_of_ble_eq_true rfl) (by decide) (goI ?_)
    refine V.ifb_ne aX6_readsRow_17 (tgt := 22) (by decide) (fun c17 => ?_) (fun c17 => ?_)
    · rw [if_pos c17]
      refine V.ald0 aX6_readsRow_22 ?_
      refine V.ild1 aX6_readsRow_23 ?_
      refine V.iconst aX6_readsRow_24 (by decide) ?_
      refine V.ild2 aX6_readsRow_25 ?_
      refine V.iconst aX6_readsRow_26 (by decide) ?_
      refine V.iconst aX6_readsRow_27 (by decide) ?_
      refine call_X6_makes aX6_readsRow_28 gl_RX6_102 (ok_makes) (MM_o) (Nat.le_of_ble_eq_true rfl) (by decide) (goV ?_)
      refine loop _ 20 _ _ _ (Nat.lt_succ_self _) (by omega) (by omega) ?_ ?_ ?_
      · rw [mkF_at (by decide)]; simp; omega
      · rw [mkF_at (by decide)]; simp; omega
      · unfold rowP rowP2; rw [if_neg (by omega), if_pos c17]
    · try rw [if_neg c17]
      refine V.iconst aX6_readsRow_20 (by decide) ?_
      refine V.zret aX6_readsRow_21 rfl (by first | decide | exact b2_01 | omega) (by decide) ?_
      refine PI.of2 ?_ ?_ <;> unfold rowP rowP2
      · first | rw [if_pos c8] | rw [if_neg (show ¬ (numP tx ln 48 st).1 < 0 by omega), if_neg c17]
      · first | rw [if_pos c8] | rw [if_neg (show ¬ (numP tx ln 48 st).1 < 0 by omega), if_neg c17]
theorem ok_readsOrder (h0 : 0 ≤ st ∧ st ≤ ln) (h1 : ln ≤ 60) : Ok G kX6_readsOrder 4 [.inr (some o)] sz (MM m o s sp pa sv sh ish tx ln cl bf mk st) 0 0 (PI (ordP tx ln mk st).1 sz (MM m o s sp pa sv sh ish tx ln cl bf (ordP tx ln mk st).2.2 (ordP tx ln mk st).2.1)) := by
  refine Ok.body [some (.inr (some o)), none, none] rfl (Nat.le_of_ble_eq_true rfl) (by decide) ?_
  have e01 := ordP_01 (tx := tx) (ln := ln) (mk := mk) (sp := st)
  refine V.ald0 aX6_readsOrder_0 ?_
  refine V.bipush aX6_readsOrder_1 (by decide) (by decide) ?_
  refine V.bipush aX6_readsOrder_3 (by decide) (by decide) ?_
  refine call_X6_sees aX6_readsOrder_5 gl_RX6_140 (ok_sees (by omega) (by omega)) (MM_o) (Nat.le_of_ble_eq_true rfl) (by decide) (goI ?_)
  refine V.ifb_ne aX6_readsOrder_8 (tgt := 13) (by decide) (fun c8 => ?_) (fun c8 => ?_)
  · refine V.ald0 aX6_readsOrder_13 ?_
    refine V.bipush aX6_readsOrder_14 (by decide) (by decide) ?_
    refine call_X6_digit aX6_readsOrder_16 gl_RX6_152 (ok_digit (by omega) (by omega)) (MM_o) (Nat.le_of_ble_eq_true rfl) (by decide) (goI ?_)
    rw [show digP tx ln 48 st = (tx st - 48, st + 1) from if_pos (by omega)]
    dsimp only
    refine V.ist1 aX6_readsOrder_19 ?_
    refine V.ald0 aX6_readsOrder_20 ?_
    refine V.bipush aX6_readsOrder_21 (by decide) (by decide) ?_
    refine call_X6_takes aX6_readsOrder_23 gl_RX6_148 (ok_takes (by omega) (by omega)) (MM_o) (Nat.le_of_ble_eq_true rfl) (by decide) (goI ?_)
    refine V.ifb_eq aX6_readsOrder_26 (tgt := 40) (by decide) (fun c26 => ?_) (fun c26 => ?_)
    · rw [if_neg c26]
      refine V.ald0 aX6_readsOrder_40 ?_
      refine V.bipush aX6_readsOrder_41 (by decide) (by decide) ?_
      refine call_X6_takes aX6_readsOrder_43 gl_RX6_148 (ok_takes (by omega) (by omega)) (MM_o) (Nat.le_of_ble_eq_true rfl) (by decide) (goI ?_)
      refine V.ifb_eq aX6_readsOrder_46 (tgt := 60) (by decide) (fun c46 => ?_) (fun c46 => ?_)
      · rw [if_neg c46]
        refine V.ald0 aX6_readsOrder_60 ?_
        refine V.bipush aX6_readsOrder_61 (by decide) (by decide) ?_
        refine call_X6_takes aX6_readsOrder_63 gl_RX6_148 (ok_takes (by omega) (by omega)) (MM_o) (Nat.le_of_ble_eq_true rfl) (by decide) (goI ?_)
        refine V.ifb_eq aX6_readsOrder_66 (tgt := 96) (by decide) (fun c66 => ?_) (fun c66 => ?_)
        · rw [if_neg c66]
          refine V.ald0 aX6_readsOrder_96 ?_
          refine V.ild1 aX6_readsOrder_97 ?_
          refine V.iconst aX6_readsOrder_98 (by decide) ?_
          refine V.iconst aX6_readsOrder_99 (by decide) ?_
          refine V.bipush aX6_readsOrder_100 (by decide) (by decide) ?_
          refine V.iconst aX6_readsOrder_102 (by decide) ?_
          refine call_X6_makes aX6_readsOrder_103 gl_RX6_102 (ok_makes) (MM_o) (Nat.le_of_ble_eq_true rfl) (by decide) (goV ?_)
          refine V.ald0 aX6_readsOrder_106 ?_
          refine V.bipush aX6_readsOrder_107 (by decide) (by decide) ?_
          refine call_X6_takes aX6_readsOrder_109 gl_RX6_148 (ok_takes (by omega) (by omega)) (MM_o) (Nat.le_of_ble_eq_true rfl) (by decide) (goI ?_)
          refine V.ifb_ne aX6_readsOrder_112 (tgt := 132) (by decide) (fun c112 => ?_) (fun c112 => ?_)
          · try rw [if_pos c112]
            refine V.iconst aX6_readsOrder_132 (by decide) ?_
            refine V.goto aX6_readsOrder_133 (tgt := 137) (by decide) ?_
            refine V.zret aX6_readsOrder_137 rfl (by first | decide | exact celP_01) (by decide) ?_
            unfold ordP ordP2 at *
            refine PI.of2 ?_ ?_
            · repeat' split
              all_goals first | rfl | omega | (exfalso; omega)
            · repeat' split
              all_goals first | rfl | (exfalso; omega)
          · rw [if_neg c112]
            refine V.ald0 aX6_readsOrder_115 ?_
            refine V.bipush aX6_readsOrder_116 (by decide) (by decide) ?_
            refine call_X6_takes aX6_readsOrder_118 gl_RX6_148 (ok_takes (by omega) (by omega)) (MM_o) (Nat.le_of_ble_eq_true rfl) (by decide) (goI ?_)
            refine V.ifb_eq aX6_readsOrder_121 (tgt := 136) (by decide) (fun c121 => ?_) (fun c121 => ?_)
            · try rw [if_neg c121]
              refine V.iconst aX6_readsOrder_136 (by decide) ?_
              refine V.zret aX6_readsOrder_137 rfl (by first | decide | exact celP_01) (by decide) ?_
              unfold ordP ordP2 at *
              refine PI.of2 ?_ ?_
              · repeat' split
                all_goals first | rfl | omega | (exfalso; omega)
              · repeat' split
                all_goals first | rfl | (exfalso; omega)
            · rw [if_pos c121]
              refine V.ald0 aX6_readsOrder_124 ?_
              refine V.ild1 aX6_readsOrder_125 ?_
              refine call_X6_readsRow aX6_readsOrder_126 gl_RX6_159 (ok_readsRow (by omega) (by omega)) (MM_o) (Nat.le_of_ble_eq_true rfl) (by decide) (goI ?_)
              have r01 := rowP_01 (tx := tx) (ln := ln) (page := tx st - 48) (mk := mkF (tx st - 48) 0 0 12 0 mk) (sp := st + 1 + 1)
              refine V.if_eq aX6_readsOrder_129 (tgt := 136) (by decide) (fun c129 => ?_) (fun c129 => ?_)
              · try rw [if_neg c121]
                refine V.iconst aX6_readsOrder_136 (by decide) ?_
                refine V.zret aX6_readsOrder_137 rfl (by first | decide | exact celP_01) (by decide) ?_
                unfold ordP ordP2 at *
                refine PI.of2 ?_ ?_
                · repeat' split
                  all_goals first | rfl | omega | (exfalso; omega)
                · repeat' split
                  all_goals first | rfl | (exfalso; omega)
              · try rw [if_pos c112]
                refine V.iconst aX6_readsOrder_132 (by decide) ?_
                refine V.goto aX6_readsOrder_133 (tgt := 137) (by decide) ?_
                refine V.zret aX6_readsOrder_137 rfl (by first | decide | exact celP_01) (by decide) ?_
                unfold ordP ordP2 at *
                refine PI.of2 ?_ ?_
                · repeat' split
                  all_goals first | rfl | omega | (exfalso; omega)
                · repeat' split
                  all_goals first | rfl | (exfalso; omega)
        · rw [if_pos c66]
          have b1 := numP_b (tx := tx) (ln := ln) (l := 49) (sp := st + 1 + 1) (by omega) (by decide)
          refine V.ald0 aX6_readsOrder_69 ?_
          refine V.bipush aX6_readsOrder_70 (by decide) (by decide) ?_
          refine call_X6_number aX6_readsOrder_72 gl_RX6_144 (ok_number (by omega) (by omega) (by omega)) (MM_o) (Nat.le_of_ble_eq_true rfl) (by decide) (goI ?_)
          refine V.ist2 aX6_readsOrder_75 ?_
          refine V.ald0 aX6_readsOrder_76 ?_
          refine V.ild1 aX6_readsOrder_77 ?_
          refine V.iconst aX6_readsOrder_78 (by decide) ?_
          refine V.iconst aX6_readsOrder_79 (by decide) ?_
          refine V.bipush aX6_readsOrder_80 (by decide) (by decide) ?_
          refine V.ild2 aX6_readsOrder_82 ?_
          refine call_X6_makes aX6_readsOrder_83 gl_RX6_102 (ok_makes) (MM_o) (Nat.le_of_ble_eq_true rfl) (by decide) (goV ?_)
          refine V.ild2 aX6_readsOrder_86 ?_
          refine V.if_le aX6_readsOrder_87 (tgt := 94) (by decide) (fun c87 => ?_) (fun c87 => ?_)
          · refine V.iconst aX6_readsOrder_94 (by decide) ?_
            refine V.zret aX6_readsOrder_95 rfl (by first | decide | exact celP_01) (by decide) ?_
            unfold ordP ordP2 at *
            refine PI.of2 ?_ ?_
            · repeat' split
              all_goals first | rfl | omega | (exfalso; omega)
            · repeat' split
              all_goals first | rfl | (exfalso; omega)
          · refine V.iconst aX6_readsOrder_90 (by decide) ?_
            refine V.goto aX6_readsOrder_91 (tgt := 95) (by decide) ?_
            refine V.zret aX6_readsOrder_95 rfl (by first | decide | exact celP_01) (by decide) ?_
            unfold ordP ordP2 at *
            refine PI.of2 ?_ ?_
            · repeat' split
              all_goals first | rfl | omega | (exfalso; omega)
            · repeat' split
              all_goals first | rfl | (exfalso; omega)
      · rw [if_pos c46]
        refine V.ald0 aX6_readsOrder_49 ?_
        refine V.ild1 aX6_readsOrder_50 ?_
        refine V.iconst aX6_readsOrder_51 (by decide) ?_
        refine V.bipush aX6_readsOrder_52 (by decide) (by decide) ?_
        refine V.bipush aX6_readsOrder_54 (by decide) (by decide) ?_
        refine call_X6_readsCells aX6_readsOrder_56 gl_RX6_155 (ok_readsCells (by omega) (by omega) (by omega)) (MM_o) (Nat.le_of_ble_eq_true rfl) (by decide) (goI ?_)
        refine V.zret aX6_readsOrder_59 rfl (by first | decide | exact celP_01) (by decide) ?_
        unfold ordP ordP2 at *
        refine PI.of2 ?_ ?_
        · repeat' split
          all_goals first | rfl | omega | (exfalso; omega)
        · repeat' split
          all_goals first | rfl | (exfalso; omega)
    · rw [if_pos c26]
      refine V.ald0 aX6_readsOrder_29 ?_
      refine V.ild1 aX6_readsOrder_30 ?_
      refine V.iconst aX6_readsOrder_31 (by decide) ?_
      refine V.bipush aX6_readsOrder_32 (by decide) (by decide) ?_
      refine V.bipush aX6_readsOrder_34 (by decide) (by decide) ?_
      refine call_X6_readsCells aX6_readsOrder_36 gl_RX6_155 (ok_readsCells (by omega) (by omega) (by omega)) (MM_o) (Nat.le_of_ble_eq_true rfl) (by decide) (goI ?_)
      refine V.zret aX6_readsOrder_39 rfl (by first | decide | exact celP_01) (by decide) ?_
      unfold ordP ordP2 at *
      refine PI.of2 ?_ ?_
      · repeat' split
        all_goals first | rfl | omega | (exfalso; omega)
      · repeat' split
        all_goals first | rfl | (exfalso; omega)
  · refine V.iconst aX6_readsOrder_11 (by decide) ?_
    refine V.zret aX6_readsOrder_12 rfl (by first | decide | exact celP_01) (by decide) ?_
    unfold ordP ordP2 at *
    refine PI.of2 ?_ ?_
    · repeat' split
      all_goals first | rfl | omega | (exfalso; omega)
    · repeat' split
      all_goals first | rfl | (exfalso; omega)
end

