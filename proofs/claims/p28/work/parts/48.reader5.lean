-- the reader's whole text
def posP (tx : Int → Int) (ln : Int) : Nat → Int
  | 0 => 0
  | n + 1 => ordE tx ln (posP tx ln n) + 1
def FoundR (Z t0 : Nat) (m : Mem) (tx : Int → Int) (ln : Int) (f : Int → Option Nat) (n : Nat) : Prop := ∀ i : Nat, i < n → ∃ e, f (i : Int) = some e ∧ AskR Z t0 m e (ordW tx ln (posP tx ln i))
theorem FoundR.ext {Z t0 : Nat} {m m1 : Mem} {tx : Int → Int} {ln : Int} {f : Int → Option Nat} {n : Nat} (h : FoundR Z t0 m tx ln f n) (x : Ext m m1) : FoundR Z t0 m1 tx ln f n := fun i hi => by
  obtain ⟨e, h1, h2⟩ := h i hi
  exact ⟨e, h1, h2.ext x⟩
def RA (m : Mem) (sz rd ta Z t0 : Nat) (tx : Int → Int) (ln : Int) : PO := fun ret z m' => sz ≤ z ∧ ret = some (.inl (txtP tx ln 100 Zr 0).1) ∧ ∃ (m1 : Mem) (n : Nat) (f : Int → Option Nat), Ext m m1 ∧ m' = RM m1 rd ta ln n (txtP tx ln 100 Zr 0).2.1 f ∧ ((txtP tx ln 100 Zr 0).1 = 1 → (1 ≤ n ∧ n ≤ 21) ∧ FoundR Z t0 m1 tx ln f n ∧ (∀ i : Nat, i + 1 < n → seesP tx ln (ordE tx ln (posP tx ln i)) 59 59) ∧ ¬ seesP tx ln (ordE tx ln (posP tx ln (n - 1))) 59 59)
theorem rar_nu {c n : Nat} {f : Int → Option Nat} : rar c n f ≠ unk := fun h => by cases h
theorem car_nu {n : Nat} {f : Int → Int} : car n f ≠ unk := fun h => by cases h
section
variable {G : GX} {sz : Nat} {m : Mem} {rd ta Z t0 : Nat} {tx h0 : Int → Int} {ln nn st : Int} {f : Int → Option Nat}
theorem ok_init3 (ho : m rd = obj 3 [.inr none, .inl 0, .inr none, .inl 0, .inl 0]) : Ok G kX3_init 1 [.inr (some rd), .inr (some ta), .inl ln] (rd + 1) m 1 21 (PV (rd + 2) (RM m rd ta ln 0 0 (fun _ => none))) := by
  refine Ok.body [some (.inr (some rd)), some (.inr (some ta)), some (.inl ln)] rfl (Nat.le_of_ble_eq_true rfl) (by decide) ?_
  refine V.ald0 aX3_init_0 ?_
  refine V.objI aX3_init_1 gl_RX3_3 (by decide) ?_
  refine V.ald0 aX3_init_4 ?_
  refine V.bipush aX3_init_5 (by decide) (by decide) ?_
  refine V.newr (ci := 0) aX3_init_7 gk_RX3_9 (Or.inl rfl) (by decide) (by decide) ?_
  refine V.putF aX3_init_10 fl_RX3_11 rfl rfl ((upM_n (Nat.ne_of_lt (Nat.lt_succ_self _))).trans ho) (Nat.le_of_ble_eq_true rfl) rfl rfl ?_
  refine V.ald0 aX3_init_13 ?_
  refine V.ald1 aX3_init_14 ?_
  refine V.putF aX3_init_15 fl_RX3_17 rfl rfl upM_s (Nat.le_of_ble_eq_true rfl) rfl rfl ?_
  rw [upM_upM]
  refine V.ald0 aX3_init_18 ?_
  refine V.ild2 aX3_init_19 ?_
  refine V.putF aX3_init_20 fl_RX3_21 rfl rfl upM_s (Nat.le_of_ble_eq_true rfl) rfl rfl ?_
  rw [upM_upM]
  refine V.ret aX3_init_23 rfl (by decide) ?_
  refine PV.of (RM_ext (by rw [upM_s]; rfl) (by rw [upM_n (by omega), upM_s]; rfl) (fun a a0 a1 => by rw [upM_n a0, upM_n a1]))
theorem ok_order {i : Int} (hi : 0 ≤ i ∧ i < 21) : Ok G kX3_order 0 [.inr (some rd), .inl i] sz (RM m rd ta ln nn st f) 0 0 (PR (f i) sz (RM m rd ta ln nn st f)) := by
  refine Ok.body [some (.inr (some rd)), some (.inl i)] rfl (Nat.le_of_ble_eq_true rfl) (by decide) ?_
  refine V.ild1 aX3_order_0 ?_
  refine V.if_lt aX3_order_1 (tgt := 19) (by decide) (fun c1 => ?_) (fun c1 => ?_)
  · exfalso
    omega
  · refine V.ild1 aX3_order_4 ?_
    refine V.bipush aX3_order_5 (by decide) (by decide) ?_
    refine V.icmp_ge aX3_order_7 (tgt := 19) (by decide) (fun c7 => ?_) (fun c7 => ?_)
    · exfalso
      omega
    · refine V.ald0 aX3_order_10 ?_
      refine V.getf aX3_order_11 fl_RX3_11 RM_o rfl ?_
      refine V.ild1 aX3_order_14 ?_
      refine V.aald aX3_order_15 RM_f hi.1 (by omega) ?_
      refine V.goto aX3_order_16 (tgt := 20) (by decide) ?_
      refine V.aret aX3_order_20 rfl (Or.inl ⟨_, rfl⟩) (by decide) ?_
      exact ⟨rfl, rfl, rfl⟩
theorem ok_readAll (ht : m ta = car 60 tx) (hta : ta < rd) (hl : 0 ≤ ln ∧ ln ≤ 60) (hG : G.2.2.2 = t0) (hz : m t0 = iar 0 h0) (ht0 : t0 < rd) (hsz : rd + 2 ≤ sz ∧ Z ≤ sz) {ro : List AV} {fo : Int → Option Nat} (h3 : m rd = obj 3 ro) (h4 : m (rd + 1) = rar 0 21 fo) : Ok G kX3_readAll 5 [.inr (some rd)] sz (RM m rd ta ln 0 0 f) 63 672 (RA m sz rd ta Z t0 tx ln) := by
  refine Ok.body [some (.inr (some rd)), none] rfl (Nat.le_of_ble_eq_true rfl) (by decide) ?_
  have nul : ∀ (m1 : Mem) (z k n : Nat) (nn : Nat) (f : Int → Option Nat) (y : Option AV), k ≤ 63 → n ≤ 672 → sz ≤ z → Ext m m1 → (txtP tx ln 100 Zr 0).1 = 0 → V G kX3_readAll (rmM 5 63 672) (QfM G (RA m sz rd ta Z t0 tx ln) 63 672) 13 [some (.inr (some rd)), y] [.inr none] z (RM m1 rd ta ln nn (txtP tx ln 100 Zr 0).2.1 f) k n := by
    intro m1 z k n nn f y hk hn hz2 hx h
    refine V.ast1 aX3_readAll_13 ?_
    refine V.ald1 aX3_readAll_14 ?_
    refine V.ifnonnull aX3_readAll_15 (tgt := 20) (by decide) (fun v15 c15 => ?_) (fun c15 => ?_)
    · cases c15
    · refine V.iconst aX3_readAll_18 (by decide) ?_
      refine V.zret aX3_readAll_19 rfl (by first | decide | exact b2_01 | omega) ⟨hk, hn⟩ ?_
      exact ⟨hz2, by rw [h], m1, nn, f, hx, rfl, fun q => by rw [h] at q; exact absurd q (by decide)⟩
  have loop : ∀ (fu : Nat) (n : Nat) (m1 : Mem) (f : Int → Option Nat) (z : Nat) (y : Option AV), (ln - posP tx ln n).toNat < fu → (3 * (n : Int) ≤ posP tx ln n ∧ posP tx ln n ≤ ln) → sz ≤ z → Ext m m1 → FoundR Z t0 m1 tx ln f n → (∀ i : Nat, i < n → seesP tx ln (ordE tx ln (posP tx ln i)) 59 59) → ((txtP tx ln 100 Zr 0).1 = (txtP tx ln fu Zr (posP tx ln n)).1 ∧ (txtP tx ln 100 Zr 0).2.1 = (txtP tx ln fu Zr (posP tx ln n)).2.1) → V G kX3_readAll (rmM 5 63 672) (QfM G (RA m sz rd ta Z t0 tx ln) 63 672) 0 [some (.inr (some rd)), y] [] z (RM m1 rd ta ln n (posP tx ln n) f) (3 * n) (32 * n) := by
    intro fu
    induction fu with
    | zero => intro n m1 f z y h; omega
    | succ fu ih =>
      intro n m1 f z y hfu hpos hzz hx hF hse htx
      have ht1 : m1 ta = car 60 tx := hx.at ht car_nu
      have hz1 : m1 t0 = iar 0 h0 := hx.at hz iar_nu
      have ob := ordP_b (tx := tx) (ln := ln) (mk := Zr) hpos.2
      have o01 := ordP_01 (tx := tx) (ln := ln) (mk := Zr) (sp := posP tx ln n)
      have eE : (ordP tx ln Zr (posP tx ln n)).2.1 = ordE tx ln (posP tx ln n) := rfl
      have eW : (ordP tx ln Zr (posP tx ln n)).2.2 = ordW tx ln (posP tx ln n) := rfl
      rw [txtP_s (f := fu) (w := Zr) (sp := posP tx ln n)] at htx
      have got : ∀ (m2 : Mem) (z2 : Nat) (e : Nat) (y : Option AV), sz ≤ z2 → Ext m1 m2 → (ordP tx ln Zr (posP tx ln n)).1 = 1 → AskR Z t0 m2 e (ordW tx ln (posP tx ln n)) → V G kX3_readAll (rmM 5 63 672) (QfM G (RA m sz rd ta Z t0 tx ln) 63 672) 13 [some (.inr (some rd)), y] [.inr (some e)] z2 (RM m2 rd ta ln n (ordE tx ln (posP tx ln n)) f) (3 * n + 3) (32 * n + 32) := by
        intro m2 z2 e y hz2 hx2 g1 hA
        rw [if_neg (by omega), eE] at htx
        rw [eE] at ob
        have ht1 : m2 ta = car 60 tx := hx2.at ht1 car_nu
        obtain ⟨fr, to, am, va, dm, size, ho, hZe⟩ := hA.obj
        have ne0 : e ≠ rd := fun q => by
          have := (hx.tr hx2).at h3 obj_nu
          rw [← q, ho] at this
          cases this
        have ne1 : e ≠ rd + 1 := fun q => by
          have := (hx.tr hx2).at h4 rar_nu
          rw [← q, ho] at this
          cases this
        have hF2 : FoundR Z t0 m2 tx ln (upI f n (some e)) (n + 1) := fun i hi => by
          by_cases q : i = n
          · subst q
            exact ⟨e, upI_s, hA⟩
          · obtain ⟨e1, h1, h2⟩ := hF i (by omega)
            exact ⟨e1, by rw [upI_n (by omega)]; exact h1, h2.ext hx2⟩
        refine V.ast1 aX3_readAll_13 ?_
        refine V.ald1 aX3_readAll_14 ?_
        refine V.ifnonnull aX3_readAll_15 (tgt := 20) (by decide) (fun v15 c15 => ?_) (fun c15 => ?_)
        · refine V.ald0 aX3_readAll_20 ?_
          refine V.getf aX3_readAll_21 fl_RX3_11 RM_o rfl ?_
          refine V.ald0 aX3_readAll_24 ?_
          refine V.getf aX3_readAll_25 fl_RX3_25 RM_o rfl ?_
          refine V.ald1 aX3_readAll_28 ?_
          refine V.aast aX3_readAll_29 RM_f (by decide) (by omega) (by omega) (fun v hv => by cases hv; exact ⟨_, (RM_n ⟨ne0, ne1⟩).trans ho⟩) ?_
          rw [RM_wf]
          refine V.ald0 aX3_readAll_30 ?_
          refine V.dup aX3_readAll_31 ?_
          refine V.getf aX3_readAll_32 fl_RX3_25 RM_o rfl ?_
          refine V.iconst aX3_readAll_35 (by decide) ?_
          refine V.iadd aX3_readAll_36 (by omega) ?_
          refine V.putf aX3_readAll_37 fl_RX3_25 RM_o (Nat.le_of_ble_eq_true rfl) rfl rfl ?_
          refine V.mem RM_wn.symm ?_
          rw [show (n : Int) + 1 = ((n + 1 : Nat) : Int) by omega]
          refine V.ald0 aX3_readAll_40 ?_
          refine V.getf aX3_readAll_41 fl_RX3_32 RM_o rfl ?_
          refine V.ald0 aX3_readAll_44 ?_
          refine V.getf aX3_readAll_45 fl_RX3_21 RM_o rfl ?_
          refine V.icmp_lt aX3_readAll_48 (tgt := 53) (by decide) (fun c48 => ?_) (fun c48 => ?_)
          · refine V.ald0 aX3_readAll_53 ?_
            refine V.bipush aX3_readAll_54 (by decide) (by decide) ?_
            refine call_X3_readSign aX3_readAll_56 gl_RX3_35 (ok_readSign ht1 hta hl (by omega)) (RM_o) (Nat.le_of_ble_eq_true rfl) ⟨by decide, by show 3 * n + 3 + 0 ≤ 63; omega, by show 32 * n + 32 + 0 ≤ 672; omega⟩ (goI ?_)
            refine V.ifb_ne aX3_readAll_59 (tgt := 64) (by decide) (fun c59 => ?_) (fun c59 => ?_)
            · refine V.goto aX3_readAll_64 (tgt := 0) (by decide) ?_
              rw [if_pos c59] at htx ⊢
              have hT := txtP_eq (tx := tx) (ln := ln) fu (ordP tx ln Zr (posP tx ln n)).2.2 Zr (ordE tx ln (posP tx ln n) + 1) (by omega)
              have e3 : 3 * (n + 1) = 3 * n + 3 := by omega
              have e32 : 32 * (n + 1) = 32 * n + 32 := by omega
              have hh := ih (n + 1) m2 (upI f n (some e)) z2 (some (.inr (some e))) (by show (ln - (ordE tx ln (posP tx ln n) + 1)).toNat < fu; omega) (by show 3 * ((n + 1 : Nat) : Int) ≤ ordE tx ln (posP tx ln n) + 1 ∧ ordE tx ln (posP tx ln n) + 1 ≤ ln; omega) hz2 (hx.tr hx2) hF2 (fun i hi => by
                by_cases q : i = n
                · subst q; exact c59
                · exact hse i (by omega)) ⟨htx.1.trans hT.1.symm, htx.2.trans hT.2.symm⟩
              rw [e3, e32] at hh
              exact hh
            · refine V.iconst aX3_readAll_62 (by decide) ?_
              refine V.zret aX3_readAll_63 rfl (by first | decide | exact b2_01 | omega) (by show 3 * n + 3 ≤ 63 ∧ 32 * n + 32 ≤ 672; omega) ?_
              rw [if_neg c59, if_neg (by omega)] at htx
              refine ⟨hz2, by rw [htx.1], m2, n + 1, _, hx.tr hx2, by rw [if_neg c59, htx.2], fun q => by rw [htx.1] at q; exact absurd q (show ¬ (0 : Int) = 1 by decide)⟩
          · refine V.iconst aX3_readAll_51 (by decide) ?_
            refine V.zret aX3_readAll_52 rfl (by first | decide | exact b2_01 | omega) (by show 3 * n + 3 ≤ 63 ∧ 32 * n + 32 ≤ 672; omega) ?_
            have hns : ¬ seesP tx ln (ordE tx ln (posP tx ln n)) 59 59 := by omega
            rw [if_neg hns, if_pos (by omega)] at htx
            refine ⟨hz2, by rw [htx.1], m2, n + 1, _, hx.tr hx2, by rw [htx.2], fun _ => ⟨by omega, hF2, fun i hi => hse i (by omega), by rw [Nat.add_sub_cancel]; exact hns⟩⟩
        · cases c15
      refine V.ald0 aX3_readAll_0 ?_
      refine V.getf aX3_readAll_1 fl_RX3_25 RM_o rfl ?_
      refine V.bipush aX3_readAll_4 (by decide) (by decide) ?_
      refine V.icmp_ge aX3_readAll_6 (tgt := 67) (by decide) (fun c6 => ?_) (fun c6 => ?_)
      · exfalso
        omega
      · refine V.ald0 aX3_readAll_9 ?_
        refine call_X3_readOrder aX3_readAll_10 gl_RX3_28 (ok_readOrder4 (Z := Z) ht1 hta hl (by omega) hG hz1 ht0 (by omega)) (RM_o) (Nat.le_of_ble_eq_true rfl) ⟨by decide, by show 3 * n + 3 ≤ 63; omega, by show 32 * n + 32 ≤ 672; omega⟩ (fun r10 z10 m10 h10 => ?_)
        obtain ⟨hz10, m2, hx2, rfl, hh⟩ := h10
        rcases hh with ⟨g1, rfl⟩ | ⟨g1, e, rfl, hA⟩
        · rw [if_pos g1] at htx
          rw [← htx.2]
          exact nul m2 _ _ _ n f _ (by omega) (by omega) (by omega) (hx.tr hx2) htx.1
        · exact got m2 _ e _ (by omega) hx2 g1 hA
        skip
  exact loop 100 0 m f sz _ (by show (ln - 0).toNat < 100; omega) ⟨by show (0 : Int) ≤ 0; decide, hl.1⟩ (Nat.le_refl _) Ext.rf (fun i hi => by omega) (fun i hi => by omega) ⟨rfl, rfl⟩
end
