-- the reference's methods: contracts (part thirteen): readOrders
def Zr : Int → Int := fun _ => 0
def ordW (tx : Int → Int) (ln x : Int) : Int → Int := (ordP tx ln Zr x).2.2
def ordE (tx : Int → Int) (ln x : Int) : Int := (ordP tx ln Zr x).2.1
def ordsP (tx : Int → Int) (ln : Int) : Nat → (Int → Int) → Int → Option (Int → Int)
  | 0, _, _ => none
  | f + 1, s, x => if fits1 s (doMk s Zr (ordW tx ln x)) then (if seesP tx ln (ordE tx ln x) 59 59 then ordsP tx ln f (doS s Zr (ordW tx ln x)) (ordE tx ln x + 1) else some (doS s Zr (ordW tx ln x))) else none
theorem ordsP_s {tx : Int → Int} {ln : Int} {f : Nat} {s : Int → Int} {x : Int} : ordsP tx ln (f + 1) s x = if fits1 s (doMk s Zr (ordW tx ln x)) then (if seesP tx ln (ordE tx ln x) 59 59 then ordsP tx ln f (doS s Zr (ordW tx ln x)) (ordE tx ln x + 1) else some (doS s Zr (ordW tx ln x))) else none := rfl
theorem Inv.mono {B C : Int} {s : Int → Int} (h : Inv B s) (hBC : B ≤ C ∧ C ≤ 20000) : Inv C s := by
  have hn := h.num
  exact h.same hBC (by omega) rfl rfl rfl (by omega) rfl rfl (by omega) h.C (fun p p0 p1 => ⟨(h.page p0 p1).1, (h.page p0 p1).2.1, rfl⟩) (fun _ _ => rfl)
theorem doCl_b {s cl mk : Int → Int} (hC : CellS s) (hM : mk 1 ≠ 0 → entOK mk 0) (hp : 0 ≤ mk 0 ∧ mk 0 < 6) : ∀ k, 0 ≤ k → k < 12 → 0 ≤ doCl s cl mk k ∧ doCl s cl mk k ≤ 9 := by
  unfold doCl
  by_cases q : mk 1 = 0
  · rw [if_pos q]; exact hold_b hC (Or.inl rfl) hp cl
  · rw [if_neg q]; exact chCl_b hC (hM q)
theorem Inv.does {B : Int} {s mk : Int → Int} (cl : Int → Int) (h : Inv B s) (hB : B + 1 ≤ 20000) (hM : mk 1 ≠ 0 → entOK mk 0) (hp : 0 ≤ mk 0 ∧ mk 0 < 6) : Inv (B + 1) (doS s cl mk) := by
  unfold doS
  split
  · exact h.log hB (doMk_ok h.C hM hp) (by assumption) (doCl_b h.C hM hp)
  · exact h.mono (by omega)
def roP (m : Mem) (o : Nat) (sz : Nat) (s pa : Int → Int) (sv : Int) (sh : Int → Int) (ish : Int) (tx : Int → Int) (ln : Int) (R : Option (Int → Int)) : PO := fun r z m' => match R with
  | none => ∃ s2 : Int → Int, (∀ j, 0 ≤ j → j < 1870 → s2 j = s j) ∧ PX m o (-3) sz s2 pa sv sh ish tx ln r z m'
  | some t => PX m o (t 5 - s 5) sz t (recA pa sv s) (recV sv) sh ish tx ln r z m'
theorem txtP_b {tx : Int → Int} {ln : Int} : ∀ (f : Nat) (w : Int → Int) (x : Int), x ≤ ln → x ≤ (txtP tx ln f w x).2.1 ∧ (txtP tx ln f w x).2.1 ≤ ln
  | 0, w, x, h => ⟨Int.le_refl _, h⟩
  | f + 1, w, x, h => by
    have b := ordP_b (tx := tx) (ln := ln) (mk := w) h
    rw [txtP_s]
    split
    · dsimp only; omega
    · split
      · have := txtP_b (tx := tx) (ln := ln) f (ordP tx ln w x).2.2 ((ordP tx ln w x).2.1 + 1) (by omega)
        omega
      · dsimp only; omega
section
variable {G : GX} {sz : Nat} {m : Mem} {o : Nat} {s sp pa sh tx cl bf mk : Int → Int} {sv ish ln st : Int}
theorem ok_readOrders1 (h1 : 0 ≤ ln ∧ ln ≤ 60) (h : (txtP tx ln 100 Zr 0).1 = 0) : Ok G kX6_readOrders 8 [.inr (some o)] sz (MM m o s sp pa sv sh ish tx ln cl bf mk st) 0 0 (PX m o (-100 - (txtP tx ln 100 Zr 0).2.1) sz s pa sv sh ish tx ln) := by
  refine Ok.body [some (.inr (some o)), none] rfl (Nat.le_of_ble_eq_true rfl) (by decide) ?_
  have e := txtP_eq (tx := tx) (ln := ln) 100 Zr mk 0 (by omega)
  have b := txtP_b (tx := tx) (ln := ln) 100 Zr 0 (by omega)
  refine V.ald0 aX6_readOrders_0 ?_
  refine call_X6_isText aX6_readOrders_1 gl_RX6_165 (ok_isText (by omega)) (MM_o) (Nat.le_of_ble_eq_true rfl) (by decide) (goI ?_)
  refine V.if_ne aX6_readOrders_4 (tgt := 15) (by decide) (fun c4 => ?_) (fun c4 => ?_)
  · exfalso
    omega
  · refine V.bipush aX6_readOrders_7 (by decide) (by decide) ?_
    refine V.ald0 aX6_readOrders_9 ?_
    refine M.gf aX6_readOrders_10 fl_RX6_137 rfl ?_
    refine V.isub aX6_readOrders_13 (by omega) ?_
    refine V.iret aX6_readOrders_14 rfl (by decide) ?_
    exact PX.of (by rw [e.2]) rfl rfl rfl rfl rfl rfl rfl
theorem ok_readOrders2 {B : Int} (hI : Inv B s) (hB : B + 61 ≤ 20000) (hv : 0 ≤ sv ∧ sv ≤ 4) (h1 : 0 ≤ ln ∧ ln ≤ 60) (h : (txtP tx ln 100 Zr 0).1 = 1) : Ok G kX6_readOrders 8 [.inr (some o)] sz (MM m o s sp pa sv sh ish tx ln cl bf mk st) 0 0 (roP m o sz s pa sv sh ish tx ln (ordsP tx ln 100 s 0)) := by
  refine Ok.body [some (.inr (some o)), none] rfl (Nat.le_of_ble_eq_true rfl) (by decide) ?_
  have e := txtP_eq (tx := tx) (ln := ln) 100 Zr mk 0 (by omega)
  have n0 := hI.num
  obtain ⟨R, hR⟩ : ∃ R, R = ordsP tx ln 100 s 0 := ⟨_, rfl⟩
  rw [← hR]
  have fin0 : ∀ (q cl' bf' w : Int → Int) (x : Int), R = none → V G kX6_readOrders (rmM 8 0 0) (QfM G (roP m o sz s pa sv sh ish tx ln R) 0 0) 35 [some (.inr (some o)), some (.inl 0)] [] sz (MM m o q (cpy s 0 sp 0 1870) pa sv sh ish tx ln cl' bf' w x) 0 0 := by
    intro q cl' bf' w x hr
    subst hr
    refine V.ald0 aX6_readOrders_35 ?_
    refine M.gf aX6_readOrders_36 fl_RX6_137 rfl ?_
    refine V.ald0 aX6_readOrders_39 ?_
    refine M.gf aX6_readOrders_40 fl_RX6_134 rfl ?_
    refine V.icmp_ge aX6_readOrders_43 (tgt := 103) (by decide) (fun c43 => ?_) (fun c43 => ?_)
    · refine V.ild1 aX6_readOrders_103 ?_
      refine V.if_ne aX6_readOrders_104 (tgt := 123) (by decide) (fun c104 => ?_) (fun c104 => ?_)
      · exfalso
        omega
      · refine V.ald0 aX6_readOrders_107 ?_
        refine M.gf aX6_readOrders_108 fl_RX6_13 rfl ?_
        refine V.iconst aX6_readOrders_111 (by decide) ?_
        refine V.ald0 aX6_readOrders_112 ?_
        refine M.gf aX6_readOrders_113 fl_RX6_7 rfl ?_
        refine V.iconst aX6_readOrders_116 (by decide) ?_
        refine call_X6_lays aX6_readOrders_117 gl_RX6_43 (ok_lays MM_sp MM_s (by omega) (by decide) (by decide)) (Nat.le_of_ble_eq_true rfl) (by decide) (goV ?_)
        refine V.mem MM_ws.symm ?_
        refine V.bipush aX6_readOrders_120 (by decide) (by decide) ?_
        refine V.iret aX6_readOrders_122 rfl (by decide) ?_
        exact ⟨_, fun j j0 j1 => by rw [cpy_in (by omega), cpy_in (by omega)]; congr 1; omega, PX.of rfl rfl rfl rfl rfl rfl rfl rfl⟩
    · refine V.ild1 aX6_readOrders_46 ?_
      refine V.if_eq aX6_readOrders_47 (tgt := 103) (by decide) (fun c47 => ?_) (fun c47 => ?_)
      · refine V.ild1 aX6_readOrders_103 ?_
        refine V.if_ne aX6_readOrders_104 (tgt := 123) (by decide) (fun c104 => ?_) (fun c104 => ?_)
        · exfalso
          omega
        · refine V.ald0 aX6_readOrders_107 ?_
          refine M.gf aX6_readOrders_108 fl_RX6_13 rfl ?_
          refine V.iconst aX6_readOrders_111 (by decide) ?_
          refine V.ald0 aX6_readOrders_112 ?_
          refine M.gf aX6_readOrders_113 fl_RX6_7 rfl ?_
          refine V.iconst aX6_readOrders_116 (by decide) ?_
          refine call_X6_lays aX6_readOrders_117 gl_RX6_43 (ok_lays MM_sp MM_s (by omega) (by decide) (by decide)) (Nat.le_of_ble_eq_true rfl) (by decide) (goV ?_)
          refine V.mem MM_ws.symm ?_
          refine V.bipush aX6_readOrders_120 (by decide) (by decide) ?_
          refine V.iret aX6_readOrders_122 rfl (by decide) ?_
          exact ⟨_, fun j j0 j1 => by rw [cpy_in (by omega), cpy_in (by omega)]; congr 1; omega, PX.of rfl rfl rfl rfl rfl rfl rfl rfl⟩
      · exfalso
        omega
  have fin1 : ∀ (q cl' bf' w : Int → Int), (0 ≤ q 5 ∧ q 5 ≤ 20000) → R = some q → V G kX6_readOrders (rmM 8 0 0) (QfM G (roP m o sz s pa sv sh ish tx ln R) 0 0) 35 [some (.inr (some o)), some (.inl 1)] [] sz (MM m o q (cpy s 0 sp 0 1870) pa sv sh ish tx ln cl' bf' w ln) 0 0 := by
    intro q cl' bf' w hq hr
    subst hr
    have e5 : cpy s 0 sp 0 1870 5 = s 5 := by rw [cpy_in (by decide)]; rfl
    refine V.ald0 aX6_readOrders_35 ?_
    refine M.gf aX6_readOrders_36 fl_RX6_137 rfl ?_
    refine V.ald0 aX6_readOrders_39 ?_
    refine M.gf aX6_readOrders_40 fl_RX6_134 rfl ?_
    refine V.icmp_ge aX6_readOrders_43 (tgt := 103) (by decide) (fun c43 => ?_) (fun c43 => ?_)
    · refine V.ild1 aX6_readOrders_103 ?_
      refine V.if_ne aX6_readOrders_104 (tgt := 123) (by decide) (fun c104 => ?_) (fun c104 => ?_)
      · refine V.ald0 aX6_readOrders_123 ?_
        refine V.ald0 aX6_readOrders_124 ?_
        refine M.gf aX6_readOrders_125 fl_RX6_13 rfl ?_
        refine call_X6_records aX6_readOrders_128 gl_RX6_51 (ok_records (fun _ _ => MM_sp) (by omega) hv) (MM_o) (Nat.le_of_ble_eq_true rfl) (by decide) (goV ?_)
        refine V.ald0 aX6_readOrders_131 ?_
        refine M.gf aX6_readOrders_132 fl_RX6_7 rfl ?_
        refine V.iconst aX6_readOrders_135 (by decide) ?_
        refine M.lds aX6_readOrders_136 (by omega) ?_
        refine V.ald0 aX6_readOrders_137 ?_
        refine M.gf aX6_readOrders_138 fl_RX6_13 rfl ?_
        refine V.iconst aX6_readOrders_141 (by decide) ?_
        refine M.ldsp aX6_readOrders_142 (by omega) ?_
        rw [e5]
        refine V.isub aX6_readOrders_143 (by omega) ?_
        refine V.iret aX6_readOrders_144 rfl (by decide) ?_
        refine PX.of rfl rfl ?_ rfl rfl rfl rfl rfl
        exact cpy_eqf (fun j j0 j1 => by rw [cpy_in (by omega)]; congr 1; omega)
      · exfalso
        omega
    · exfalso
      omega
  have loop : ∀ (f : Nat) (q cl' bf' w : Int → Int) (x : Int), (ln - x).toNat < f → (0 ≤ x ∧ x ≤ ln) → Inv (B + x) q → (txtP tx ln f Zr x).1 = 1 → ordsP tx ln f q x = R → V G kX6_readOrders (rmM 8 0 0) (QfM G (roP m o sz s pa sv sh ish tx ln R) 0 0) 35 [some (.inr (some o)), some (.inl 1)] [] sz (MM m o q (cpy s 0 sp 0 1870) pa sv sh ish tx ln cl' bf' w x) 0 0 := by
    intro f
    induction f with
    | zero => intro q cl' bf' w x h; omega
    | succ f ih =>
      intro q cl' bf' w x hf hx hq ht hr
      have oe := ordP_eq (tx := tx) (ln := ln) (w := Zr) (v := w) hx.2
      have ob := ordP_b (tx := tx) (ln := ln) (mk := Zr) hx.2
      have o01 := ordP_01 (tx := tx) (ln := ln) (mk := Zr) (sp := x)
      rw [txtP_s] at ht
      have v1 : (ordP tx ln Zr x).1 = 1 := by
        by_cases c : (ordP tx ln Zr x).1 = 0
        · rw [if_pos c] at ht; exact absurd ht (show ¬ (0 : Int) = 1 by decide)
        · omega
      rw [if_neg (by omega)] at ht
      have oo := ordP_ok (tx := tx) (ln := ln) (mk := Zr) hx.2 v1
      have oo2 := ordP_ok (tx := tx) (ln := ln) (mk := w) hx.2 (by omega)
      have q17 : Eq17 (ordW tx ln x) (ordP tx ln w x).2.2 := oe.2.2 v1
      have fc : fits1 q (doMk q cl' (ordP tx ln w x).2.2) ↔ fits1 q (doMk q Zr (ordW tx ln x)) := fits_congr (doMk_congr oo.1 q17)
      have dc : doS q cl' (ordP tx ln w x).2.2 = doS q Zr (ordW tx ln x) := doS_congr oo.1 q17
      have e1 : (ordP tx ln w x).2.1 = ordE tx ln x := oe.2.1
      have eE : (ordP tx ln Zr x).2.1 = ordE tx ln x := rfl
      rw [eE] at ob ht
      rw [ordsP_s] at hr
      have hI2 := Inv.does (s := q) Zr hq (by omega) oo.1 oo.2
      rw [show (ordP tx ln Zr x).2.2 = ordW tx ln x from rfl] at hI2
      have hI3 := hI2.num
      refine V.ald0 aX6_readOrders_35 ?_
      refine M.gf aX6_readOrders_36 fl_RX6_137 rfl ?_
      refine V.ald0 aX6_readOrders_39 ?_
      refine M.gf aX6_readOrders_40 fl_RX6_134 rfl ?_
      refine V.icmp_ge aX6_readOrders_43 (tgt := 103) (by decide) (fun c43 => ?_) (fun c43 => ?_)
      · exfalso
        omega
      · refine V.ild1 aX6_readOrders_46 ?_
        refine V.if_eq aX6_readOrders_47 (tgt := 103) (by decide) (fun c47 => ?_) (fun c47 => ?_)
        · exfalso
          omega
        · refine V.ald0 aX6_readOrders_50 ?_
          refine call_X6_readsOrder aX6_readOrders_51 gl_RX6_162 (ok_readsOrder (by omega) (by omega)) (MM_o) (Nat.le_of_ble_eq_true rfl) (by decide) (goI ?_)
          refine V.if_eq aX6_readOrders_54 (tgt := 68) (by decide) (fun c54 => ?_) (fun c54 => ?_)
          · exfalso
            omega
          · refine V.ald0 aX6_readOrders_57 ?_
            have n1 := hq.num
            refine call_X6_does aX6_readOrders_58 gl_RX6_168 (ok_does hq oo2.1 oo2.2) (MM_o) (Nat.le_of_ble_eq_true rfl) (by decide) (goI ?_)
            rw [dc, e1]
            refine V.ifb_eq aX6_readOrders_61 (tgt := 68) (by decide) (fun c61 => ?_) (fun c61 => ?_)
            · rw [if_neg (fun g => c61 (fc.mpr g))] at hr
              refine V.iconst aX6_readOrders_68 (by decide) ?_
              refine V.ist1 aX6_readOrders_69 ?_
              refine V.ald0 aX6_readOrders_70 ?_
              refine V.bipush aX6_readOrders_71 (by decide) (by decide) ?_
              refine call_X6_takes aX6_readOrders_73 gl_RX6_148 (ok_takes (by omega) (by omega)) (MM_o) (Nat.le_of_ble_eq_true rfl) (by decide) (goI ?_)
              refine V.ifb_ne aX6_readOrders_76 (tgt := 90) (by decide) (fun c76 => ?_) (fun c76 => ?_)
              · refine V.ild1 aX6_readOrders_90 ?_
                refine V.if_eq aX6_readOrders_91 (tgt := 98) (by decide) (fun c91 => ?_) (fun c91 => ?_)
                · refine V.iconst aX6_readOrders_98 (by decide) ?_
                  refine V.ist1 aX6_readOrders_99 ?_
                  refine V.goto aX6_readOrders_100 (tgt := 35) (by decide) ?_
                  skip
                  by_cases hs : seesP tx ln (ordE tx ln x) 59 59
                  · first
                    | exact fin0 _ _ _ _ _ hr.symm
                    | (rw [if_pos hs] at hr ht ⊢
                       exact ih _ _ _ _ _ (by omega) (by omega) (hI2.mono (by omega)) ((txtP_eq f _ Zr _ (by omega)).1.trans ht) hr)
                    | (exfalso; omega)
                  · first
                    | exact fin0 _ _ _ _ _ hr.symm
                    | (rw [if_neg hs] at hr ht ⊢
                       have el : ordE tx ln x = ln := by
                         by_cases g : ordE tx ln x = ln
                         · exact g
                         · rw [if_neg g] at ht; exact absurd ht (show ¬ (0 : Int) = 1 by decide)
                       rw [el]
                       exact fin1 _ _ _ _ (by omega) hr.symm)
                    | (exfalso; omega)
                    | (exfalso
                       rw [if_neg hs] at ht
                       by_cases g : ordE tx ln x = ln
                       · rw [if_neg hs] at c87
                         omega
                       · rw [if_neg g] at ht; exact absurd ht (show ¬ (0 : Int) = 1 by decide))
                · refine V.iconst aX6_readOrders_94 (by decide) ?_
                  refine V.goto aX6_readOrders_95 (tgt := 99) (by decide) ?_
                  refine V.ist1 aX6_readOrders_99 ?_
                  refine V.goto aX6_readOrders_100 (tgt := 35) (by decide) ?_
                  skip
                  by_cases hs : seesP tx ln (ordE tx ln x) 59 59
                  · first
                    | exact fin0 _ _ _ _ _ hr.symm
                    | (rw [if_pos hs] at hr ht ⊢
                       exact ih _ _ _ _ _ (by omega) (by omega) (hI2.mono (by omega)) ((txtP_eq f _ Zr _ (by omega)).1.trans ht) hr)
                    | (exfalso; omega)
                  · first
                    | exact fin0 _ _ _ _ _ hr.symm
                    | (rw [if_neg hs] at hr ht ⊢
                       have el : ordE tx ln x = ln := by
                         by_cases g : ordE tx ln x = ln
                         · exact g
                         · rw [if_neg g] at ht; exact absurd ht (show ¬ (0 : Int) = 1 by decide)
                       rw [el]
                       exact fin1 _ _ _ _ (by omega) hr.symm)
                    | (exfalso; omega)
                    | (exfalso
                       rw [if_neg hs] at ht
                       by_cases g : ordE tx ln x = ln
                       · rw [if_neg hs] at c87
                         omega
                       · rw [if_neg g] at ht; exact absurd ht (show ¬ (0 : Int) = 1 by decide))
              · refine V.ald0 aX6_readOrders_79 ?_
                refine M.gf aX6_readOrders_80 fl_RX6_137 rfl ?_
                refine V.ald0 aX6_readOrders_83 ?_
                refine M.gf aX6_readOrders_84 fl_RX6_134 rfl ?_
                refine V.icmp_ne aX6_readOrders_87 (tgt := 98) (by decide) (fun c87 => ?_) (fun c87 => ?_)
                · refine V.iconst aX6_readOrders_98 (by decide) ?_
                  refine V.ist1 aX6_readOrders_99 ?_
                  refine V.goto aX6_readOrders_100 (tgt := 35) (by decide) ?_
                  skip
                  by_cases hs : seesP tx ln (ordE tx ln x) 59 59
                  · first
                    | exact fin0 _ _ _ _ _ hr.symm
                    | (rw [if_pos hs] at hr ht ⊢
                       exact ih _ _ _ _ _ (by omega) (by omega) (hI2.mono (by omega)) ((txtP_eq f _ Zr _ (by omega)).1.trans ht) hr)
                    | (exfalso; omega)
                  · first
                    | exact fin0 _ _ _ _ _ hr.symm
                    | (rw [if_neg hs] at hr ht ⊢
                       have el : ordE tx ln x = ln := by
                         by_cases g : ordE tx ln x = ln
                         · exact g
                         · rw [if_neg g] at ht; exact absurd ht (show ¬ (0 : Int) = 1 by decide)
                       rw [el]
                       exact fin1 _ _ _ _ (by omega) hr.symm)
                    | (exfalso; omega)
                    | (exfalso
                       rw [if_neg hs] at ht
                       by_cases g : ordE tx ln x = ln
                       · rw [if_neg hs] at c87
                         omega
                       · rw [if_neg g] at ht; exact absurd ht (show ¬ (0 : Int) = 1 by decide))
                · refine V.ild1 aX6_readOrders_90 ?_
                  refine V.if_eq aX6_readOrders_91 (tgt := 98) (by decide) (fun c91 => ?_) (fun c91 => ?_)
                  · refine V.iconst aX6_readOrders_98 (by decide) ?_
                    refine V.ist1 aX6_readOrders_99 ?_
                    refine V.goto aX6_readOrders_100 (tgt := 35) (by decide) ?_
                    skip
                    by_cases hs : seesP tx ln (ordE tx ln x) 59 59
                    · first
                      | exact fin0 _ _ _ _ _ hr.symm
                      | (rw [if_pos hs] at hr ht ⊢
                         exact ih _ _ _ _ _ (by omega) (by omega) (hI2.mono (by omega)) ((txtP_eq f _ Zr _ (by omega)).1.trans ht) hr)
                      | (exfalso; omega)
                    · first
                      | exact fin0 _ _ _ _ _ hr.symm
                      | (rw [if_neg hs] at hr ht ⊢
                         have el : ordE tx ln x = ln := by
                           by_cases g : ordE tx ln x = ln
                           · exact g
                           · rw [if_neg g] at ht; exact absurd ht (show ¬ (0 : Int) = 1 by decide)
                         rw [el]
                         exact fin1 _ _ _ _ (by omega) hr.symm)
                      | (exfalso; omega)
                      | (exfalso
                         rw [if_neg hs] at ht
                         by_cases g : ordE tx ln x = ln
                         · rw [if_neg hs] at c87
                           omega
                         · rw [if_neg g] at ht; exact absurd ht (show ¬ (0 : Int) = 1 by decide))
                  · refine V.iconst aX6_readOrders_94 (by decide) ?_
                    refine V.goto aX6_readOrders_95 (tgt := 99) (by decide) ?_
                    refine V.ist1 aX6_readOrders_99 ?_
                    refine V.goto aX6_readOrders_100 (tgt := 35) (by decide) ?_
                    skip
                    by_cases hs : seesP tx ln (ordE tx ln x) 59 59
                    · first
                      | exact fin0 _ _ _ _ _ hr.symm
                      | (rw [if_pos hs] at hr ht ⊢
                         exact ih _ _ _ _ _ (by omega) (by omega) (hI2.mono (by omega)) ((txtP_eq f _ Zr _ (by omega)).1.trans ht) hr)
                      | (exfalso; omega)
                    · first
                      | exact fin0 _ _ _ _ _ hr.symm
                      | (rw [if_neg hs] at hr ht ⊢
                         have el : ordE tx ln x = ln := by
                           by_cases g : ordE tx ln x = ln
                           · exact g
                           · rw [if_neg g] at ht; exact absurd ht (show ¬ (0 : Int) = 1 by decide)
                         rw [el]
                         exact fin1 _ _ _ _ (by omega) hr.symm)
                      | (exfalso; omega)
                      | (exfalso
                         rw [if_neg hs] at ht
                         by_cases g : ordE tx ln x = ln
                         · rw [if_neg hs] at c87
                           omega
                         · rw [if_neg g] at ht; exact absurd ht (show ¬ (0 : Int) = 1 by decide))
            · rw [if_pos (fc.mp c61)] at hr
              refine V.iconst aX6_readOrders_64 (by decide) ?_
              refine V.goto aX6_readOrders_65 (tgt := 69) (by decide) ?_
              refine V.ist1 aX6_readOrders_69 ?_
              refine V.ald0 aX6_readOrders_70 ?_
              refine V.bipush aX6_readOrders_71 (by decide) (by decide) ?_
              refine call_X6_takes aX6_readOrders_73 gl_RX6_148 (ok_takes (by omega) (by omega)) (MM_o) (Nat.le_of_ble_eq_true rfl) (by decide) (goI ?_)
              refine V.ifb_ne aX6_readOrders_76 (tgt := 90) (by decide) (fun c76 => ?_) (fun c76 => ?_)
              · refine V.ild1 aX6_readOrders_90 ?_
                refine V.if_eq aX6_readOrders_91 (tgt := 98) (by decide) (fun c91 => ?_) (fun c91 => ?_)
                · refine V.iconst aX6_readOrders_98 (by decide) ?_
                  refine V.ist1 aX6_readOrders_99 ?_
                  refine V.goto aX6_readOrders_100 (tgt := 35) (by decide) ?_
                  skip
                  by_cases hs : seesP tx ln (ordE tx ln x) 59 59
                  · first
                    | exact fin0 _ _ _ _ _ hr.symm
                    | (rw [if_pos hs] at hr ht ⊢
                       exact ih _ _ _ _ _ (by omega) (by omega) (hI2.mono (by omega)) ((txtP_eq f _ Zr _ (by omega)).1.trans ht) hr)
                    | (exfalso; omega)
                  · first
                    | exact fin0 _ _ _ _ _ hr.symm
                    | (rw [if_neg hs] at hr ht ⊢
                       have el : ordE tx ln x = ln := by
                         by_cases g : ordE tx ln x = ln
                         · exact g
                         · rw [if_neg g] at ht; exact absurd ht (show ¬ (0 : Int) = 1 by decide)
                       rw [el]
                       exact fin1 _ _ _ _ (by omega) hr.symm)
                    | (exfalso; omega)
                    | (exfalso
                       rw [if_neg hs] at ht
                       by_cases g : ordE tx ln x = ln
                       · rw [if_neg hs] at c87
                         omega
                       · rw [if_neg g] at ht; exact absurd ht (show ¬ (0 : Int) = 1 by decide))
                · refine V.iconst aX6_readOrders_94 (by decide) ?_
                  refine V.goto aX6_readOrders_95 (tgt := 99) (by decide) ?_
                  refine V.ist1 aX6_readOrders_99 ?_
                  refine V.goto aX6_readOrders_100 (tgt := 35) (by decide) ?_
                  skip
                  by_cases hs : seesP tx ln (ordE tx ln x) 59 59
                  · first
                    | exact fin0 _ _ _ _ _ hr.symm
                    | (rw [if_pos hs] at hr ht ⊢
                       exact ih _ _ _ _ _ (by omega) (by omega) (hI2.mono (by omega)) ((txtP_eq f _ Zr _ (by omega)).1.trans ht) hr)
                    | (exfalso; omega)
                  · first
                    | exact fin0 _ _ _ _ _ hr.symm
                    | (rw [if_neg hs] at hr ht ⊢
                       have el : ordE tx ln x = ln := by
                         by_cases g : ordE tx ln x = ln
                         · exact g
                         · rw [if_neg g] at ht; exact absurd ht (show ¬ (0 : Int) = 1 by decide)
                       rw [el]
                       exact fin1 _ _ _ _ (by omega) hr.symm)
                    | (exfalso; omega)
                    | (exfalso
                       rw [if_neg hs] at ht
                       by_cases g : ordE tx ln x = ln
                       · rw [if_neg hs] at c87
                         omega
                       · rw [if_neg g] at ht; exact absurd ht (show ¬ (0 : Int) = 1 by decide))
              · refine V.ald0 aX6_readOrders_79 ?_
                refine M.gf aX6_readOrders_80 fl_RX6_137 rfl ?_
                refine V.ald0 aX6_readOrders_83 ?_
                refine M.gf aX6_readOrders_84 fl_RX6_134 rfl ?_
                refine V.icmp_ne aX6_readOrders_87 (tgt := 98) (by decide) (fun c87 => ?_) (fun c87 => ?_)
                · refine V.iconst aX6_readOrders_98 (by decide) ?_
                  refine V.ist1 aX6_readOrders_99 ?_
                  refine V.goto aX6_readOrders_100 (tgt := 35) (by decide) ?_
                  skip
                  by_cases hs : seesP tx ln (ordE tx ln x) 59 59
                  · first
                    | exact fin0 _ _ _ _ _ hr.symm
                    | (rw [if_pos hs] at hr ht ⊢
                       exact ih _ _ _ _ _ (by omega) (by omega) (hI2.mono (by omega)) ((txtP_eq f _ Zr _ (by omega)).1.trans ht) hr)
                    | (exfalso; omega)
                  · first
                    | exact fin0 _ _ _ _ _ hr.symm
                    | (rw [if_neg hs] at hr ht ⊢
                       have el : ordE tx ln x = ln := by
                         by_cases g : ordE tx ln x = ln
                         · exact g
                         · rw [if_neg g] at ht; exact absurd ht (show ¬ (0 : Int) = 1 by decide)
                       rw [el]
                       exact fin1 _ _ _ _ (by omega) hr.symm)
                    | (exfalso; omega)
                    | (exfalso
                       rw [if_neg hs] at ht
                       by_cases g : ordE tx ln x = ln
                       · rw [if_neg hs] at c87
                         omega
                       · rw [if_neg g] at ht; exact absurd ht (show ¬ (0 : Int) = 1 by decide))
                · refine V.ild1 aX6_readOrders_90 ?_
                  refine V.if_eq aX6_readOrders_91 (tgt := 98) (by decide) (fun c91 => ?_) (fun c91 => ?_)
                  · refine V.iconst aX6_readOrders_98 (by decide) ?_
                    refine V.ist1 aX6_readOrders_99 ?_
                    refine V.goto aX6_readOrders_100 (tgt := 35) (by decide) ?_
                    skip
                    by_cases hs : seesP tx ln (ordE tx ln x) 59 59
                    · first
                      | exact fin0 _ _ _ _ _ hr.symm
                      | (rw [if_pos hs] at hr ht ⊢
                         exact ih _ _ _ _ _ (by omega) (by omega) (hI2.mono (by omega)) ((txtP_eq f _ Zr _ (by omega)).1.trans ht) hr)
                      | (exfalso; omega)
                    · first
                      | exact fin0 _ _ _ _ _ hr.symm
                      | (rw [if_neg hs] at hr ht ⊢
                         have el : ordE tx ln x = ln := by
                           by_cases g : ordE tx ln x = ln
                           · exact g
                           · rw [if_neg g] at ht; exact absurd ht (show ¬ (0 : Int) = 1 by decide)
                         rw [el]
                         exact fin1 _ _ _ _ (by omega) hr.symm)
                      | (exfalso; omega)
                      | (exfalso
                         rw [if_neg hs] at ht
                         by_cases g : ordE tx ln x = ln
                         · rw [if_neg hs] at c87
                           omega
                         · rw [if_neg g] at ht; exact absurd ht (show ¬ (0 : Int) = 1 by decide))
                  · refine V.iconst aX6_readOrders_94 (by decide) ?_
                    refine V.goto aX6_readOrders_95 (tgt := 99) (by decide) ?_
                    refine V.ist1 aX6_readOrders_99 ?_
                    refine V.goto aX6_readOrders_100 (tgt := 35) (by decide) ?_
                    skip
                    by_cases hs : seesP tx ln (ordE tx ln x) 59 59
                    · first
                      | exact fin0 _ _ _ _ _ hr.symm
                      | (rw [if_pos hs] at hr ht ⊢
                         exact ih _ _ _ _ _ (by omega) (by omega) (hI2.mono (by omega)) ((txtP_eq f _ Zr _ (by omega)).1.trans ht) hr)
                      | (exfalso; omega)
                    · first
                      | exact fin0 _ _ _ _ _ hr.symm
                      | (rw [if_neg hs] at hr ht ⊢
                         have el : ordE tx ln x = ln := by
                           by_cases g : ordE tx ln x = ln
                           · exact g
                           · rw [if_neg g] at ht; exact absurd ht (show ¬ (0 : Int) = 1 by decide)
                         rw [el]
                         exact fin1 _ _ _ _ (by omega) hr.symm)
                      | (exfalso; omega)
                      | (exfalso
                         rw [if_neg hs] at ht
                         by_cases g : ordE tx ln x = ln
                         · rw [if_neg hs] at c87
                           omega
                         · rw [if_neg g] at ht; exact absurd ht (show ¬ (0 : Int) = 1 by decide))
  refine V.ald0 aX6_readOrders_0 ?_
  refine call_X6_isText aX6_readOrders_1 gl_RX6_165 (ok_isText (by omega)) (MM_o) (Nat.le_of_ble_eq_true rfl) (by decide) (goI ?_)
  refine V.if_ne aX6_readOrders_4 (tgt := 15) (by decide) (fun c4 => ?_) (fun c4 => ?_)
  · refine V.ald0 aX6_readOrders_15 ?_
    refine M.gf aX6_readOrders_16 fl_RX6_7 rfl ?_
    refine V.iconst aX6_readOrders_19 (by decide) ?_
    refine V.ald0 aX6_readOrders_20 ?_
    refine M.gf aX6_readOrders_21 fl_RX6_13 rfl ?_
    refine V.iconst aX6_readOrders_24 (by decide) ?_
    refine call_X6_lays aX6_readOrders_25 gl_RX6_43 (ok_lays MM_s MM_sp (by omega) (by decide) (by decide)) (Nat.le_of_ble_eq_true rfl) (by decide) (goV ?_)
    refine V.mem MM_wsp.symm ?_
    refine V.iconst aX6_readOrders_28 (by decide) ?_
    refine V.ist1 aX6_readOrders_29 ?_
    refine V.ald0 aX6_readOrders_30 ?_
    refine V.iconst aX6_readOrders_31 (by decide) ?_
    refine M.pfst aX6_readOrders_32 fl_RX6_137 ?_
    exact loop 100 s _ _ _ 0 (by omega) (by omega) (hI.mono (by omega)) h hR.symm
  · exfalso
    omega
end

