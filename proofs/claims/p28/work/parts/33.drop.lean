-- the oldest entries are dropped
def shg (g : Int → Option Nat) (h : Int) : Int → Option Nat := fun i => if 0 ≤ i ∧ i < h then g (i + 1) else g i
theorem shg_in {g : Int → Option Nat} {h i : Int} (q : 0 ≤ i ∧ i < h) : shg g h i = g (i + 1) := if_pos q
theorem shg_out {g : Int → Option Nat} {h i : Int} (q : ¬ (0 ≤ i ∧ i < h)) : shg g h i = g i := if_neg q
abbrev Agr (s t : Int → Int) : Prop := (∀ j, 0 ≤ j → j < 170 → t j = s j) ∧ ∀ j, 170 ≤ j → j < 170 + 17 * (s 3 - s 2) → t j = s j
theorem EntsR.agr {Z t0 : Nat} {m : Mem} {s t : Int → Int} {g : Int → Option Nat} (h : EntsR Z t0 m s g) (a : Agr s t) : EntsR Z t0 m t g := by
  intro i i0 i1
  rw [a.1 3 (by decide) (by decide), a.1 2 (by decide) (by decide)] at i1
  obtain ⟨e, hg, he⟩ := h i i0 i1
  exact ⟨e, hg, he.congr (fun j j0 j1 => a.2 _ (by omega) (by omega))⟩
theorem SlotsR.drp {Z : Nat} {m : Mem} {g : Int → Option Nat} (h : SlotsR Z m g) {n : Int} (hn : n < 100) : SlotsR Z m (shg g n) := by
  intro i i0 i1 e he
  by_cases q : 0 ≤ i ∧ i < n
  · rw [shg_in q] at he
    exact h (i + 1) (by omega) (by omega) e he
  · rw [shg_out q] at he
    exact h i i0 i1 e he
theorem EntsR.drop1 {Z t0 : Nat} {m : Mem} {s : Int → Int} {g : Int → Option Nat} (h : EntsR Z t0 m s g) (hE : EntS s) (h1 : s 2 + 1 ≤ s 3) : EntsR Z t0 m (dropsF s 1) (shg g (s 3 - s 2 - 1)) := by
  have e2 : dropsF s 1 2 = s 2 + 1 := dropsF_2
  have e3 : dropsF s 1 3 = s 3 := dropsF_lo hE (by decide) h1 (by decide) (by decide)
  intro i i0 i1
  rw [e2, e3] at i1
  obtain ⟨e, hg, he⟩ := h (i + 1) (by omega) (by omega)
  refine ⟨e, by rw [shg_in (by omega)]; exact hg, he.congr (fun j j0 j1 => ?_)⟩
  rw [dropsF_e hE (by decide) h1 (by omega) (by omega)]
  congr 1
  omega
theorem drop_succ {B n : Int} {s : Int → Int} (hI : Inv B s) (h0 : 0 ≤ n) (h1 : s 2 + n + 1 ≤ s 4) : Agr (dropsF (dropsF s n) 1) (dropsF s (n + 1)) := by
  have hn := hI.num
  have hE := hI.E
  have hI2 := hI.drops h0 (show s 2 + n ≤ s 4 by omega)
  have hE2 := hI2.E
  have lo : ∀ j, j < 164 → j ≠ 2 → dropsF s n j = s j := fun j j0 j1 => dropsF_lo hE h0 (by omega) j0 j1
  have e2 : dropsF s n 2 = s 2 + n := dropsF_2
  have e3 : dropsF s n 3 = s 3 := lo 3 (by decide) (by decide)
  have en : ∀ j, 170 ≤ j → j < 170 + 17 * (s 3 - (s 2 + n)) → dropsF s n j = s (j + 17 * n) := fun j j0 j1 => dropsF_e hE h0 (by omega) j0 j1
  have f2 : dropsF (dropsF s n) 1 2 = s 2 + n + 1 := by rw [dropsF_2, e2]
  have f3 : dropsF (dropsF s n) 1 3 = s 3 := by rw [dropsF_lo hE2 (by decide) (by omega) (by decide) (by decide), e3]
  refine ⟨fun j j0 j1 => ?_, fun j j0 j1 => ?_⟩
  · by_cases q2 : j = 2
    · subst q2
      rw [dropsF_2, f2]
      omega
    · by_cases q : j < 164
      · rw [dropsF_lo hE (by omega) (by omega) q q2, dropsF_lo hE2 (by decide) (by omega) q q2, lo j q q2]
      · obtain ⟨p, hp⟩ : ∃ p, j = 164 + p := ⟨j - 164, by omega⟩
        subst hp
        rw [dropP hE (by omega) (by omega) (by omega), dropP hE2 (by decide) (by omega) (by omega), foldI_s h0, show (1 : Int) = 0 + 1 from rfl, foldI_s (Int.le_refl _), foldI_0 (Int.le_refl _), dropP hE h0 (by omega) (by omega)]
        have eo : ofE (dropsF s n) (dropsF s n 2 + 0) 0 = ofE s (s 2 + n) 0 := by
          dsimp only [ofE, atE]
          rw [e2, en _ (by omega) (by omega)]
          congr 1
          omega
        rw [eo, e2, Int.add_zero]
  · rw [f2, f3] at j1
    rw [dropsF_e hE (by omega) (by omega) j0 (by omega), dropsF_e hE2 (by decide) (by omega) j0 (by omega), en _ (by omega) (by omega)]
    congr 1
    omega
theorem isN_drop {B n : Int} {s : Int → Int} (hI : Inv B s) (h0 : 0 ≤ n) (h1 : s 2 + n ≤ s 4) (hno : ∀ j, s 2 ≤ j → j < s 2 + n → ¬ isN s j) {k : Int} (hk : s 2 + n ≤ k ∧ k < s 3) : isN (dropsF s n) k ↔ isN s k := by
  have hn := hI.num
  have hE := hI.E
  obtain ⟨t, ht⟩ : ∃ t, t = dropsF s n := ⟨_, rfl⟩
  have lo : ∀ j, j < 164 → j ≠ 2 → t j = s j := fun j j0 j1 => by rw [ht]; exact dropsF_lo hE h0 (by omega) j0 j1
  have e2 : t 2 = s 2 + n := by rw [ht]; exact dropsF_2
  have e3 := lo 3 (by decide) (by decide)
  have e4 := lo 4 (by decide) (by decide)
  have eo : ∀ j i, s 2 + n ≤ j → j < s 3 → 0 ≤ i → i < 17 → ofE t j i = ofE s j i := fun j i j0 j1 i0 i1 => by
    dsimp only [ofE, atE]
    rw [e2, ht, dropsF_e hE h0 (by omega) (by omega) (by omega)]
    congr 1
    omega
  have st : ∀ p e, 0 ≤ p → p < 6 → s 2 + n ≤ e → (e = s 3 ∨ e = s 4) → start t p e = start s p e := by
    intro p e p0 p1 he0 he
    have es := lo (152 + p) (by omega) (by omega)
    rcases start_bb (s := s) (p := p) (e := e) (by omega) with g | ⟨g1, g2, g3, g4, g5⟩
    · rw [g]
      refine start_none (fun j j0 j1 jc => ?_) (by omega)
      rw [eo j 0 (by omega) (by omega) (by decide) (by decide), eo j 1 (by omega) (by omega) (by decide) (by decide), es] at jc
      have := start_ge (s := s) (p := p) (e := e) (k := j) ⟨by omega, j1⟩ jc
      omega
    · have hge : s 2 + n ≤ start s p e := by
        by_cases q : s 2 + n ≤ start s p e
        · exact q
        · refine absurd ?_ (hno _ g1 (by omega))
          have hne : needsP s p (start s p e) e := ⟨g2, g3, g5, Int.le_refl _⟩
          unfold isN
          rw [g3]
          rcases he with he | he
          · subst he; exact Or.inl hne
          · subst he; exact Or.inr hne
      refine start_at ⟨by omega, g2⟩ ?_ (fun j j0 j1 jc => ?_)
      · rw [eo _ 0 hge (by omega) (by decide) (by decide), eo _ 1 hge (by omega) (by decide) (by decide), es]
        exact ⟨g3, g4, g5⟩
      · rw [eo j 0 (by omega) (by omega) (by decide) (by decide), eo j 1 (by omega) (by omega) (by decide) (by decide)] at jc
        have := start_ge (s := s) (p := p) (e := e) (k := j) ⟨by omega, j1⟩ ⟨jc.1, jc.2, by omega⟩
        omega
  have hpk := hE.p (k := k) (by omega) hk.2
  have ek := eo k 0 hk.1 hk.2 (by decide) (by decide)
  have es := lo (152 + ofE s k 0) (by omega) (by omega)
  rw [← ht]
  unfold isN
  rw [ek]
  unfold needsP
  rw [ek, es, e3, e4, st _ (s 3) hpk.1 hpk.2 (by omega) (Or.inl rfl), st _ (s 4) hpk.1 hpk.2 h1 (Or.inr rfl)]
def PG (m : Mem) (B Z t0 : Nat) (ans : Int) (sz : Nat) (s' : Int → Int) : PO := fun r z m' => r = some (.inl ans) ∧ z = sz ∧ ∃ g', m' = BM m B s' g' ∧ EntsR Z t0 m s' g' ∧ SlotsR Z m g'
section
variable {G : GX} {sz : Nat} {m : Mem} {B Z t0 : Nat} {s : Int → Int} {g : Int → Option Nat}
theorem SlotsR.val (hS : SlotsR Z m g) (hZ : B + 22 ≤ Z) {i : Int} (h : 0 ≤ i ∧ i < 100) : ∀ v : Nat, g i = some v → (v < B ∨ B + 22 ≤ v) ∧ ∃ fs, m v = obj 0 fs := fun v hv => by
  have := hS i h.1 h.2 v hv
  exact ⟨Or.inr (by omega), this.2⟩
theorem ok_dropFirst (h0 : 0 ≤ s 2 ∧ s 3 ≤ 30000) (h1 : s 2 < s 3) (h2 : s 3 - s 2 ≤ 100) (hS : SlotsR Z m g) (hZ : B + 22 ≤ Z) : Ok G kX1_dropFirst 0 [.inr (some (B + 2))] sz (BM m B s g) 0 0 (PV sz (BM m B (upI s 2 (s 2 + 1)) (shg g (s 3 - s 2 - 1)))) := by
  refine Ok.body [some (.inr (some (B + 2))), none] rfl (Nat.le_of_ble_eq_true rfl) (by decide) ?_
  have loop : ∀ (n : Nat) (k : Int), (s 3 - s 2 - k).toNat < n → 1 ≤ k → k ≤ s 3 - s 2 → V G kX1_dropFirst (rmM 0 0 0) (QfM G (PV sz (BM m B (upI s 2 (s 2 + 1)) (shg g (s 3 - s 2 - 1)))) 0 0) 2 [some (.inr (some (B + 2))), some (.inl k)] [] sz (BM m B s (shg g (k - 1))) 0 0 := by
    intro n
    induction n with
    | zero => intro k h; omega
    | succ n ih =>
      intro k hn hk1 hk2
      refine V.ild1 aX1_dropFirst_2 ?_
      refine V.ald0 aX1_dropFirst_3 ?_
      refine U.gfL aX1_dropFirst_4 fl_RX1_24 rfl ?_
      refine V.icmp_ge aX1_dropFirst_7 (tgt := 36) (by decide) (fun c7 => ?_) (fun c7 => ?_)
      · have ek : k = s 3 - s 2 := by omega
        subst ek
        refine V.ald0 aX1_dropFirst_36 ?_
        refine U.gfL aX1_dropFirst_37 fl_RX1_24 rfl ?_
        refine V.if_le aX1_dropFirst_40 (tgt := 63) (by decide) (fun c40 => ?_) (fun c40 => ?_)
        · exfalso
          omega
        · refine V.ald0 aX1_dropFirst_43 ?_
          refine V.dup aX1_dropFirst_44 ?_
          refine U.gfL aX1_dropFirst_45 fl_RX1_21 rfl ?_
          refine V.iconst aX1_dropFirst_48 (by decide) ?_
          refine V.iadd aX1_dropFirst_49 (by omega) ?_
          refine U.pfL1 aX1_dropFirst_50 fl_RX1_21 ?_
          obtain ⟨S1, hS1⟩ : ∃ S1 : Int → Int, S1 = upI (upI s 2 (s 2 + 1)) 3 (s 2 + 1 + (s 3 - s 2)) := ⟨_, rfl⟩
          have a2 : S1 2 = s 2 + 1 := by rw [hS1, upI_n (by decide), upI_s]
          have a3 : S1 3 = s 3 + 1 := by rw [hS1, upI_s]; omega
          rw [← hS1]
          refine V.ald0 aX1_dropFirst_53 ?_
          refine V.dup aX1_dropFirst_54 ?_
          refine U.gfL aX1_dropFirst_55 fl_RX1_24 rfl ?_
          refine V.iconst aX1_dropFirst_58 (by decide) ?_
          refine V.isub aX1_dropFirst_59 (by omega) ?_
          refine U.pfL2 aX1_dropFirst_60 fl_RX1_24 ?_
          refine V.ret aX1_dropFirst_63 rfl (by decide) ?_
          refine PV.of ?_
          congr 1
          rw [a2, a3, hS1]
          funext j
          by_cases q3 : j = 3
          · subst q3; rw [upI_s, upI_n (by decide)]; omega
          · rw [upI_n q3, upI_n q3]
      · refine V.ild1 aX1_dropFirst_10 ?_
        refine V.bipush aX1_dropFirst_11 (by decide) (by decide) ?_
        refine V.icmp_ge aX1_dropFirst_13 (tgt := 36) (by decide) (fun c13 => ?_) (fun c13 => ?_)
        · exfalso
          omega
        · refine V.ald0 aX1_dropFirst_16 ?_
          refine U.gfL aX1_dropFirst_17 fl_RX1_11 rfl ?_
          refine V.ild1 aX1_dropFirst_20 ?_
          refine V.iconst aX1_dropFirst_21 (by decide) ?_
          refine V.isub aX1_dropFirst_22 (by omega) ?_
          refine V.ald0 aX1_dropFirst_23 ?_
          refine U.gfL aX1_dropFirst_24 fl_RX1_11 rfl ?_
          refine V.ild1 aX1_dropFirst_27 ?_
          refine U.aaE aX1_dropFirst_28 (by omega) ?_
          rw [show shg g (k - 1) k = g k from shg_out (by omega)]
          refine U.stE aX1_dropFirst_29 (by omega) (hS.val hZ ⟨by omega, by omega⟩) ?_
          refine V.inc1 aX1_dropFirst_30 (by omega) ?_
          refine V.goto aX1_dropFirst_33 (tgt := 2) (by decide) ?_
          refine V.mem ?_ (ih (k + 1) (by omega) (by omega) (by omega))
          congr 1
          funext i
          by_cases q : i = k - 1
          · subst q
            rw [upI_s, shg_in (by omega)]
            congr 1
            omega
          · rw [upI_n q]
            by_cases q2 : 0 ≤ i ∧ i < k - 1
            · rw [shg_in q2, shg_in (by omega)]
            · rw [shg_out q2, shg_out (by omega)]
  refine V.iconst aX1_dropFirst_0 (by decide) ?_
  refine V.ist1 aX1_dropFirst_1 ?_
  refine V.mem ?_ (loop _ 1 (Nat.lt_succ_self _) (by decide) (by omega))
  congr 1
  funext i
  exact shg_out (by omega)
theorem ok_dropOld {C : Int} (hI : Inv C s) (hR : EntsR Z t0 m s g) (hS : SlotsR Z m g) (hZ : B + 22 ≤ Z) (h1 : s 2 < s 3) : Ok G kX4_dropOldest 1 [.inr (some B)] sz (BM m B s g) 0 0 (PV sz (BM m B (dropsF s 1) (shg g (s 3 - s 2 - 1)))) := by
  refine Ok.body [some (.inr (some B)), none] rfl (Nat.le_of_ble_eq_true rfl) (by decide) ?_
  have hn := hI.num
  have hN := hI.N
  have hE := hI.E
  obtain ⟨e, hg, he⟩ := hR (s 2 - s 2) (by omega) (by omega)
  obtain ⟨am, va, ho⟩ := he.obj (B := B) (s := s) (g := g) hZ
  have e0' := ofE0 (s := s) (k := s 2)
  have hp := hE.p (k := s 2) (Int.le_refl _) h1
  obtain ⟨p, hpe⟩ : ∃ p, p = ofE s (s 2) 0 := ⟨_, rfl⟩
  rw [← hpe] at hp e0'
  refine V.ald0 aX4_dropOldest_0 ?_
  refine U.gfS aX4_dropOldest_1 fl_RX4_20 rfl ?_
  refine V.ald0 aX4_dropOldest_4 ?_
  refine U.gfS aX4_dropOldest_5 fl_RX4_20 rfl ?_
  refine U.gfL aX4_dropOldest_8 fl_RX4_45 rfl ?_
  refine call_X1_at aX4_dropOldest_11 gl_RX4_57 (ok_at1 hg (by omega) (by omega) hN) (BM_L) (Nat.le_of_ble_eq_true rfl) (by decide) (goR ?_)
  refine V.ast1 aX4_dropOldest_14 ?_
  refine V.ald1 aX4_dropOldest_15 ?_
  refine V.ifnull aX4_dropOldest_16 (tgt := 47) (by decide) (fun c16 => ?_) (fun v16 c16 => ?_)
  · cases c16
  · refine V.ald0 aX4_dropOldest_19 ?_
    refine U.gfS aX4_dropOldest_20 fl_RX4_11 rfl ?_
    refine V.ald1 aX4_dropOldest_23 ?_
    refine V.getf aX4_dropOldest_24 fl_RX4_61 ho rfl ?_
    rw [← e0']
    refine U.aaP aX4_dropOldest_27 (by omega) ?_
    refine V.ald0 aX4_dropOldest_28 ?_
    refine U.gfS aX4_dropOldest_29 fl_RX4_20 rfl ?_
    refine U.gfL aX4_dropOldest_32 fl_RX4_45 rfl ?_
    refine V.iconst aX4_dropOldest_35 (by decide) ?_
    refine V.iadd aX4_dropOldest_36 (by omega) ?_
    refine U.pfP4 aX4_dropOldest_37 fl_RX4_115 (by omega) (by omega) ?_
    obtain ⟨S1, hS1⟩ : ∃ S1 : Int → Int, S1 = upI s (164 + p) (undr (s 2 + 1)) := ⟨_, rfl⟩
    have a2 : S1 2 = s 2 := by rw [hS1, upI_n (by omega)]
    have a3 : S1 3 = s 3 := by rw [hS1, upI_n (by omega)]
    rw [← hS1]
    refine V.ald0 aX4_dropOldest_40 ?_
    refine U.gfS aX4_dropOldest_41 fl_RX4_20 rfl ?_
    refine call_X1_dropFirst aX4_dropOldest_44 gl_RX4_171 (ok_dropFirst (by omega) (by omega) (by omega) hS hZ) (BM_L) (Nat.le_of_ble_eq_true rfl) (by decide) (goV ?_)
    refine V.ret aX4_dropOldest_47 rfl (by decide) ?_
    refine PV.of ?_
    rw [a2, a3]
    refine BM_congr (fun j j0 j1 => ?_)
    by_cases q2 : j = 2
    · subst q2; rw [upI_s, dropsF_2]
    · rw [upI_n q2]
      by_cases q : j < 164
      · rw [dropsF_lo hE (by decide) (by omega) q q2, hS1, upI_n (by omega)]
      · obtain ⟨r, hr⟩ : ∃ r, j = 164 + r := ⟨j - 164, by omega⟩
        subst hr
        rw [dropP hE (by decide) (by omega) (by omega), show (1 : Int) = 0 + 1 from rfl, foldI_s (Int.le_refl _), foldI_0 (Int.le_refl _), Int.add_zero, ← hpe, hS1]
        by_cases q3 : p = r
        · subst q3
          rw [if_pos rfl, upI_s]
          unfold undr
          rw [if_neg (by omega)]
          omega
        · rw [if_neg q3, upI_n (by omega)]
end
