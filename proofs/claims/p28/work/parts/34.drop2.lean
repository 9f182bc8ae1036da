-- dropping down to a size; way, room, flush
theorem used_drop {C n : Int} {s : Int → Int} (hI : Inv C s) (h0 : 0 ≤ n) (h1 : s 2 + n ≤ s 4) : used (dropsF s n) = usedW s n := by
  have hn := hI.num
  have hE := hI.E
  have e2 : dropsF s n 2 = s 2 + n := dropsF_2
  have e3 : dropsF s n 3 = s 3 := dropsF_lo hE h0 (by omega) (by decide) (by decide)
  rw [used_eq, usedW_eq h0 (by omega), e2, e3]
  refine sumI_congr (fun k k0 k1 => sizeA_congr (fun j j0 j1 => ?_))
  dsimp only [atE]
  rw [e2, dropsF_e hE h0 (by omega) (by omega) (by omega)]
  congr 1
  omega
theorem EntsR.same2 {Z t0 : Nat} {m : Mem} {s t : Int → Int} {g : Int → Option Nat} (h : EntsR Z t0 m s g) (h2 : t 2 = s 2) (h3 : t 3 = s 3) (he : ∀ j, 170 ≤ j → t j = s j) : EntsR Z t0 m t g := by
  intro i i0 i1
  rw [h2, h3] at i1
  obtain ⟨e, hg, hx⟩ := h i i0 i1
  exact ⟨e, hg, hx.congr (fun j j0 j1 => he _ (by omega))⟩
section
variable {G : GX} {sz : Nat} {m : Mem} {B Z t0 : Nat} {s : Int → Int} {g : Int → Option Nat} {C : Int}
theorem ok_dropDown {most : Int} (hI : Inv C s) (hR : EntsR Z t0 m s g) (hS : SlotsR Z m g) (hZ : B + 22 ≤ Z) (hm : -1000 ≤ most ∧ most ≤ 1000) : Ok G kX4_dropDownTo 3 [.inr (some B), .inl most] sz (BM m B s g) 0 0 (PG m B Z t0 (droppable s most) sz (dropsF s (droppable s most))) := by
  refine Ok.body [some (.inr (some B)), some (.inl most), none] rfl (Nat.le_of_ble_eq_true rfl) (by decide) ?_
  have hn := hI.num
  have loop : ∀ (f : Nat) (n : Int) (gn : Int → Option Nat), (s 4 - s 2 - n).toNat < f → 0 ≤ n → s 2 + n ≤ s 4 → (∀ j, s 2 ≤ j → j < s 2 + n → ¬ isN s j) → drpF s most ((s 4 - s 2 - n).toNat + 1) n (usedW s n) = droppable s most → EntsR Z t0 m (dropsF s n) gn → SlotsR Z m gn → V G kX4_dropDownTo (rmM 3 0 0) (QfM G (PG m B Z t0 (droppable s most) sz (dropsF s (droppable s most))) 0 0) 2 [some (.inr (some B)), some (.inl most), some (.inl n)] [] sz (BM m B (dropsF s n) gn) 0 0 := by
    intro f
    induction f with
    | zero => intro n gn h; omega
    | succ f ih =>
      intro n gn hf hn0 hn1 hno hr tR tS
      obtain ⟨t, ht⟩ : ∃ t, t = dropsF s n := ⟨_, rfl⟩
      have tI : Inv C t := by rw [ht]; exact hI.drops hn0 hn1
      have tu : used t = usedW s n := by rw [ht]; exact used_drop hI hn0 hn1
      have t2 : t 2 = s 2 + n := by rw [ht]; exact dropsF_2
      have t3 : t 3 = s 3 := by rw [ht]; exact dropsF_lo hI.E hn0 (by omega) (by decide) (by decide)
      have t4 : t 4 = s 4 := by rw [ht]; exact dropsF_lo hI.E hn0 (by omega) (by decide) (by decide)
      rw [← ht] at tR ⊢
      have tn : s 2 + n < s 3 → (isN t (s 2 + n) ↔ isN s (s 2 + n)) := fun h => by rw [ht]; exact isN_drop hI hn0 hn1 hno ⟨Int.le_refl _, h⟩
      refine V.ild2 aX4_dropDownTo_2 ?_
      refine V.bipush aX4_dropDownTo_3 (by decide) (by decide) ?_
      refine V.icmp_ge aX4_dropDownTo_5 (tgt := 60) (by decide) (fun c5 => ?_) (fun c5 => ?_)
      · refine V.ild2 aX4_dropDownTo_60 ?_
        refine V.iret aX4_dropDownTo_61 rfl (by decide) ?_
        have en : droppable s most = n := by
          rw [← hr, drpF, if_neg]
          first
            | omega
            | (rw [t2, tn (by omega)] at c47; exact fun q => q.2.2 c47)
        rw [en]
        exact ⟨rfl, rfl, gn, by rw [ht], by rw [← ht]; exact tR, tS⟩
      · refine V.ald0 aX4_dropDownTo_8 ?_
        refine U.gfS aX4_dropDownTo_9 fl_RX4_20 rfl ?_
        refine call_X1_sizes aX4_dropDownTo_12 gl_RX4_162 (ok_sizes tI.N tI.E tR hZ) (BM_L) (Nat.le_of_ble_eq_true rfl) (by decide) (goI ?_)
        refine V.ild1 aX4_dropDownTo_15 ?_
        refine V.icmp_le aX4_dropDownTo_16 (tgt := 60) (by decide) (fun c16 => ?_) (fun c16 => ?_)
        · refine V.ild2 aX4_dropDownTo_60 ?_
          refine V.iret aX4_dropDownTo_61 rfl (by decide) ?_
          have en : droppable s most = n := by
            rw [← hr, drpF, if_neg]
            first
              | omega
              | (rw [t2, tn (by omega)] at c47; exact fun q => q.2.2 c47)
          rw [en]
          exact ⟨rfl, rfl, gn, by rw [ht], by rw [← ht]; exact tR, tS⟩
        · refine V.ald0 aX4_dropDownTo_19 ?_
          refine U.gfS aX4_dropDownTo_20 fl_RX4_20 rfl ?_
          refine U.gfL aX4_dropDownTo_23 fl_RX4_45 rfl ?_
          refine V.ald0 aX4_dropDownTo_26 ?_
          refine U.gfS aX4_dropDownTo_27 fl_RX4_20 rfl ?_
          refine U.gfL aX4_dropDownTo_30 fl_RX4_76 rfl ?_
          refine V.icmp_ge aX4_dropDownTo_33 (tgt := 60) (by decide) (fun c33 => ?_) (fun c33 => ?_)
          · refine V.ild2 aX4_dropDownTo_60 ?_
            refine V.iret aX4_dropDownTo_61 rfl (by decide) ?_
            have en : droppable s most = n := by
              rw [← hr, drpF, if_neg]
              first
                | omega
                | (rw [t2, tn (by omega)] at c47; exact fun q => q.2.2 c47)
            rw [en]
            exact ⟨rfl, rfl, gn, by rw [ht], by rw [← ht]; exact tR, tS⟩
          · refine V.ald0 aX4_dropDownTo_36 ?_
            refine V.ald0 aX4_dropDownTo_37 ?_
            refine U.gfS aX4_dropDownTo_38 fl_RX4_20 rfl ?_
            refine U.gfL aX4_dropDownTo_41 fl_RX4_45 rfl ?_
            refine call_X4_isNeeded aX4_dropDownTo_44 gl_RX4_79 (ok_isN4 tI.N tI.E tR hZ tI.P (by omega) (by omega)) (BM_S) (Nat.le_of_ble_eq_true rfl) (by decide) (goI ?_)
            refine V.ifb_ne aX4_dropDownTo_47 (tgt := 60) (by decide) (fun c47 => ?_) (fun c47 => ?_)
            · refine V.ild2 aX4_dropDownTo_60 ?_
              refine V.iret aX4_dropDownTo_61 rfl (by decide) ?_
              have en : droppable s most = n := by
                rw [← hr, drpF, if_neg]
                first
                  | omega
                  | (rw [t2, tn (by omega)] at c47; exact fun q => q.2.2 c47)
              rw [en]
              exact ⟨rfl, rfl, gn, by rw [ht], by rw [← ht]; exact tR, tS⟩
            · rw [t2, tn (by omega)] at c47
              have ag := drop_succ hI hn0 (by omega)
              rw [← ht] at ag
              refine V.ald0 aX4_dropDownTo_50 ?_
              refine call_X4_dropOldest aX4_dropDownTo_51 gl_RX4_168 (ok_dropOld tI tR tS hZ (by omega)) (BM_S) (Nat.le_of_ble_eq_true rfl) (by decide) (goV ?_)
              refine V.inc2 aX4_dropDownTo_54 (by omega) ?_
              refine V.goto aX4_dropDownTo_57 (tgt := 2) (by decide) ?_
              refine V.mem (BM_congr ag.1) (ih (n + 1) _ (by omega) (by omega) (by omega) (fun j j0 j1 => ?_) ?_ ((tR.drop1 tI.E (by omega)).agr ag) (tS.drp (by omega)))
              · by_cases q : j = s 2 + n
                · subst q; exact c47
                · exact hno j j0 (by omega)
              · rw [← hr, show (s 4 - s 2 - n).toNat + 1 = ((s 4 - s 2 - (n + 1)).toNat + 1) + 1 by omega, drpF_s ⟨by omega, by omega, c47⟩]
                congr 1
                unfold usedW
                rw [foldI_s hn0]
  have ag0 : Agr s (dropsF s 0) := by
    have hE := hI.E
    refine ⟨fun j j0 j1 => ?_, fun j j0 j1 => ?_⟩
    · by_cases q2 : j = 2
      · subst q2; rw [dropsF_2]; omega
      · by_cases q : j < 164
        · exact dropsF_lo hE (by decide) (by omega) q q2
        · obtain ⟨p, hp⟩ : ∃ p, j = 164 + p := ⟨j - 164, by omega⟩
          subst hp
          rw [dropP hE (by decide) (by omega) (by omega), foldI_0 (Int.le_refl _)]
    · rw [dropsF_e hE (by decide) (by omega) j0 (by omega)]
      congr 1
      omega
  refine V.iconst aX4_dropDownTo_0 (by decide) ?_
  refine V.ist2 aX4_dropDownTo_1 ?_
  refine V.mem (BM_congr ag0.1) (loop _ 0 g (Nat.lt_succ_self _) (by decide) (by omega) (fun j j0 j1 => by omega) ?_ (hR.agr ag0) hS)
  rw [Int.sub_zero]
  unfold usedW
  rw [foldI_0 (by decide)]
  rfl
theorem ok_way4 {w : Int} : Ok G kX4_changeWay 0 [.inr (some B), .inl w] sz (BM m B s g) 0 0 (PI (if s 0 = w then -5 else s 0) sz (BM m B (upI s 0 w) g)) := by
  refine Ok.body [some (.inr (some B)), some (.inl w), none] rfl (Nat.le_of_ble_eq_true rfl) (by decide) ?_
  refine V.ald0 aX4_changeWay_0 ?_
  refine U.gfS aX4_changeWay_1 fl_RX4_24 rfl ?_
  refine V.ist2 aX4_changeWay_4 ?_
  refine V.ald0 aX4_changeWay_5 ?_
  refine V.ild1 aX4_changeWay_6 ?_
  refine U.pfS2 aX4_changeWay_7 fl_RX4_24 ?_
  refine V.ild2 aX4_changeWay_10 ?_
  refine V.ild1 aX4_changeWay_11 ?_
  refine V.icmp_ne aX4_changeWay_12 (tgt := 20) (by decide) (fun c12 => ?_) (fun c12 => ?_)
  · refine V.ild2 aX4_changeWay_20 ?_
    refine V.iret aX4_changeWay_21 rfl (by decide) ?_
    refine PI.of ?_
    first | rw [if_pos c12] | rw [if_neg c12]
  · refine V.bipush aX4_changeWay_15 (by decide) (by decide) ?_
    refine V.goto aX4_changeWay_17 (tgt := 21) (by decide) ?_
    refine V.iret aX4_changeWay_21 rfl (by decide) ?_
    refine PI.of ?_
    first | rw [if_pos c12] | rw [if_neg c12]
theorem ok_room4 {r : Int} (hI : Inv C s) (hR : EntsR Z t0 m s g) (hS : SlotsR Z m g) (hZ : B + 22 ≤ Z) (hm : 30 ≤ r ∧ r ≤ 300) : Ok G kX4_changeRoom 4 [.inr (some B), .inl r] sz (BM m B s g) 0 0 (fun ret z m' => if r < usedW s (droppable s r) then ret = some (.inl (-4)) ∧ z = sz ∧ ∃ s' g', m' = BM m B s' g' else PG m B Z t0 (if s 1 = r then -5 else s 1) sz (upI (dropsF s (droppable s r)) 1 r) ret z m') := by
  refine Ok.body [some (.inr (some B)), some (.inl r), none] rfl (Nat.le_of_ble_eq_true rfl) (by decide) ?_
  have hn := hI.num
  have hd := droppable_b (most := r) hI.N
  have tI := hI.drops hd.1 hd.2
  have tu := used_drop hI hd.1 hd.2
  have t2 : dropsF s (droppable s r) 2 = s 2 + droppable s r := dropsF_2
  have t3 : dropsF s (droppable s r) 3 = s 3 := dropsF_lo hI.E hd.1 (by omega) (by decide) (by decide)
  refine V.ald0 aX4_changeRoom_0 ?_
  refine U.gfS aX4_changeRoom_1 fl_RX4_20 rfl ?_
  refine U.gfL aX4_changeRoom_4 fl_RX4_153 rfl ?_
  refine V.ist2 aX4_changeRoom_7 ?_
  refine V.ald0 aX4_changeRoom_8 ?_
  refine V.ild1 aX4_changeRoom_9 ?_
  refine call_X4_dropDownTo aX4_changeRoom_10 gl_RX4_159 (ok_dropDown hI hR hS hZ (by omega)) (BM_S) (Nat.le_of_ble_eq_true rfl) (by decide) (fun r10 z10 m10 h10 => ?_)
  obtain ⟨rfl, rfl, g1, rfl, tR, tS⟩ := h10
  refine V.pop aX4_changeRoom_13 ?_
  refine V.ald0 aX4_changeRoom_14 ?_
  refine U.gfS aX4_changeRoom_15 fl_RX4_20 rfl ?_
  refine call_X1_sizes aX4_changeRoom_18 gl_RX4_162 (ok_sizes tI.N tI.E tR hZ) (BM_L) (Nat.le_of_ble_eq_true rfl) (by decide) (goI ?_)
  refine V.ild1 aX4_changeRoom_21 ?_
  refine V.icmp_le aX4_changeRoom_22 (tgt := 28) (by decide) (fun c22 => ?_) (fun c22 => ?_)
  · refine V.ald0 aX4_changeRoom_28 ?_
    refine U.gfS aX4_changeRoom_29 fl_RX4_20 rfl ?_
    refine V.ild1 aX4_changeRoom_32 ?_
    refine U.pfL4 aX4_changeRoom_33 fl_RX4_153 ?_
    refine V.ild2 aX4_changeRoom_36 ?_
    refine V.ild1 aX4_changeRoom_37 ?_
    refine V.icmp_ne aX4_changeRoom_38 (tgt := 46) (by decide) (fun c38 => ?_) (fun c38 => ?_)
    · refine V.ild2 aX4_changeRoom_46 ?_
      refine V.iret aX4_changeRoom_47 rfl (by decide) ?_
      rw [if_neg (show ¬ r < usedW s (droppable s r) by omega)]
      refine ⟨?_, rfl, g1, rfl, ?_, tS⟩
      · first | rw [if_pos c38] | rw [if_neg c38]
      · exact tR.same2 (by rw [upI_n (by decide)]) (by rw [upI_n (by decide)]) (fun j hj => upI_n (by omega))
    · refine V.bipush aX4_changeRoom_41 (by decide) (by decide) ?_
      refine V.goto aX4_changeRoom_43 (tgt := 47) (by decide) ?_
      refine V.iret aX4_changeRoom_47 rfl (by decide) ?_
      rw [if_neg (show ¬ r < usedW s (droppable s r) by omega)]
      refine ⟨?_, rfl, g1, rfl, ?_, tS⟩
      · first | rw [if_pos c38] | rw [if_neg c38]
      · exact tR.same2 (by rw [upI_n (by decide)]) (by rw [upI_n (by decide)]) (fun j hj => upI_n (by omega))
  · refine V.bipush aX4_changeRoom_25 (by decide) (by decide) ?_
    refine V.iret aX4_changeRoom_27 rfl (by decide) ?_
    rw [if_pos (show r < usedW s (droppable s r) by omega)]
    exact ⟨rfl, rfl, _, _, rfl⟩
theorem ok_flush4 (hN : Num s) : Ok G kX4_flushAll 1 [.inr (some B)] sz (BM m B s g) 0 0 (PI (if s 3 = s 4 then -5 else s 3 - s 4) sz (BM m B (upI s 4 (s 3)) g)) := by
  refine Ok.body [some (.inr (some B)), none] rfl (Nat.le_of_ble_eq_true rfl) (by decide) ?_
  obtain ⟨n0, n1, n2, n3, n4⟩ := id hN
  refine V.ald0 aX4_flushAll_0 ?_
  refine U.gfS aX4_flushAll_1 fl_RX4_20 rfl ?_
  refine call_X1_next aX4_flushAll_4 gl_RX4_69 (ok_next hN) (BM_L) (Nat.le_of_ble_eq_true rfl) (by decide) (goI ?_)
  refine V.ald0 aX4_flushAll_7 ?_
  refine U.gfS aX4_flushAll_8 fl_RX4_20 rfl ?_
  refine U.gfL aX4_flushAll_11 fl_RX4_76 rfl ?_
  refine V.isub aX4_flushAll_14 (by omega) ?_
  refine V.ist1 aX4_flushAll_15 ?_
  refine V.ald0 aX4_flushAll_16 ?_
  refine U.gfS aX4_flushAll_17 fl_RX4_20 rfl ?_
  refine V.ald0 aX4_flushAll_20 ?_
  refine U.gfS aX4_flushAll_21 fl_RX4_20 rfl ?_
  refine call_X1_next aX4_flushAll_24 gl_RX4_69 (ok_next hN) (BM_L) (Nat.le_of_ble_eq_true rfl) (by decide) (goI ?_)
  refine U.pfL3 aX4_flushAll_27 fl_RX4_76 ?_
  refine V.ild1 aX4_flushAll_30 ?_
  refine V.if_ne aX4_flushAll_31 (tgt := 39) (by decide) (fun c31 => ?_) (fun c31 => ?_)
  · refine V.ild1 aX4_flushAll_39 ?_
    refine V.iret aX4_flushAll_40 rfl (by decide) ?_
    refine PI.of ?_
    first | rw [if_pos (by omega)] | rw [if_neg (by omega)]
  · refine V.bipush aX4_flushAll_34 (by decide) (by decide) ?_
    refine V.goto aX4_flushAll_36 (tgt := 40) (by decide) ?_
    refine V.iret aX4_flushAll_40 rfl (by decide) ?_
    refine PI.of ?_
    first | rw [if_pos (by omega)] | rw [if_neg (by omega)]
theorem ok_lose (hN : Num s) : Ok G kX1_loseUnflushed 1 [.inr (some (B + 2))] sz (BM m B s g) 0 0 (PI (s 3 - s 4) sz (BM m B (upI s 3 (s 4)) g)) := by
  refine Ok.body [some (.inr (some (B + 2))), none] rfl (Nat.le_of_ble_eq_true rfl) (by decide) ?_
  obtain ⟨n0, n1, n2, n3, n4⟩ := id hN
  refine V.ald0 aX1_loseUnflushed_0 ?_
  refine call_X1_next aX1_loseUnflushed_1 gl_RX1_30 (ok_next hN) (BM_L) (Nat.le_of_ble_eq_true rfl) (by decide) (goI ?_)
  refine V.ald0 aX1_loseUnflushed_4 ?_
  refine U.gfL aX1_loseUnflushed_5 fl_RX1_27 rfl ?_
  refine V.isub aX1_loseUnflushed_8 (by omega) ?_
  refine V.ist1 aX1_loseUnflushed_9 ?_
  refine V.ald0 aX1_loseUnflushed_10 ?_
  refine V.ald0 aX1_loseUnflushed_11 ?_
  refine U.gfL aX1_loseUnflushed_12 fl_RX1_27 rfl ?_
  refine V.ald0 aX1_loseUnflushed_15 ?_
  refine U.gfL aX1_loseUnflushed_16 fl_RX1_21 rfl ?_
  refine V.isub aX1_loseUnflushed_19 (by omega) ?_
  refine U.pfL2 aX1_loseUnflushed_20 fl_RX1_24 ?_
  refine V.ild1 aX1_loseUnflushed_23 ?_
  refine V.iret aX1_loseUnflushed_24 rfl (by decide) ?_
  exact PI.of2 rfl (by rw [show s 2 + (s 4 - s 2) = s 4 by omega])
end
