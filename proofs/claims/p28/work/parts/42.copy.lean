-- a state is copied into another
def Blk (m : Mem) (A : Nat) (s : Int → Int) (g : Int → Option Nat) : Prop := m A = obj 4 (sobj A s) ∧ m (A + 1) = rar 2 6 (pgs A) ∧ m (A + 2) = obj 1 (lobj A s) ∧ m (A + 3) = rar 0 100 g ∧ ∀ q : Int, 0 ≤ q ∧ q < 6 → m (A + 4 + 3 * q.toNat) = obj 2 (pobj A s q) ∧ m (A + 5 + 3 * q.toNat) = iar 12 (r12 s (8 + 12 * q)) ∧ m (A + 6 + 3 * q.toNat) = iar 12 (r12 s (80 + 12 * q))
theorem Blk.eq {m : Mem} {A : Nat} {s : Int → Int} {g : Int → Option Nat} (h : Blk m A s g) : m = BM m A s g := by
  obtain ⟨h0, h1, h2, h3, h4⟩ := h
  exact BM_ext h0 h1 h2 h3 (fun q hq => (h4 q hq).1) (fun q hq => (h4 q hq).2.1) (fun q hq => (h4 q hq).2.2) (fun _ _ => rfl)
theorem Blk.of {m : Mem} {A : Nat} {s : Int → Int} {g : Int → Option Nat} : Blk (BM m A s g) A s g := ⟨BM_S, BM_P, BM_L, BM_E, fun _ hq => ⟨BM_p hq, BM_c hq, BM_k hq⟩⟩
-- a block is what it was, where the memory is what it was
theorem Blk.keep {m m1 : Mem} {A : Nat} {s : Int → Int} {g : Int → Option Nat} (h : Blk m A s g) (e : ∀ a, A ≤ a → a < A + 22 → m1 a = m a) : Blk m1 A s g := by
  obtain ⟨h0, h1, h2, h3, h4⟩ := h
  refine ⟨by rw [e _ (by omega) (by omega)]; exact h0, by rw [e _ (by omega) (by omega)]; exact h1, by rw [e _ (by omega) (by omega)]; exact h2, by rw [e _ (by omega) (by omega)]; exact h3, fun q hq => ?_⟩
  rw [e _ (by omega) (by omega), e _ (by omega) (by omega), e _ (by omega) (by omega)]
  exact h4 q hq
theorem undr_dr {s : Int → Int} {p : Int} (h : s (164 + p) = -5 ∨ 0 ≤ s (164 + p)) : undr (dr s p) = s (164 + p) ∧ 0 ≤ dr s p := by
  unfold dr undr
  by_cases q : s (164 + p) = -5
  · rw [if_pos q, if_pos rfl]
    omega
  · rw [if_neg q, if_neg (by omega)]
    omega
def pgC (s t : Int → Int) (p : Int) : Int → Int := upI (upI (upI (cpy (r12 s (80 + 12 * p)) 0 (cpy (r12 s (8 + 12 * p)) 0 t (8 + 12 * p) 12) (80 + 12 * p) 12) (152 + p) (s (152 + p))) (158 + p) (s (158 + p))) (164 + p) (s (164 + p))
abbrev isPg (j k : Int) : Prop := (8 ≤ j ∧ j < 8 + 12 * k) ∨ (80 ≤ j ∧ j < 80 + 12 * k) ∨ (152 ≤ j ∧ j < 152 + k) ∨ (158 ≤ j ∧ j < 158 + k) ∨ (164 ≤ j ∧ j < 164 + k)
def cpR (s t : Int → Int) (k : Int) : Int → Int := fun j => if isPg j k then s j else t j
theorem pgC_cpR {s t : Int → Int} {k : Int} (hk : 0 ≤ k ∧ k < 6) : ∀ j, 0 ≤ j → j < 170 → cpR s t (k + 1) j = pgC s (cpR s t k) k j := by
  intro j j0 j1
  unfold pgC
  by_cases q1 : j = 164 + k
  · subst q1; rw [upI_s]; exact if_pos (by omega)
  rw [upI_n q1]
  by_cases q2 : j = 158 + k
  · subst q2; rw [upI_s]; exact if_pos (by omega)
  rw [upI_n q2]
  by_cases q3 : j = 152 + k
  · subst q3; rw [upI_s]; exact if_pos (by omega)
  rw [upI_n q3]
  by_cases q4 : 80 + 12 * k ≤ j ∧ j < 80 + 12 * k + 12
  · rw [cpy_in q4, r12_in (by omega), show 80 + 12 * k + (0 + (j - (80 + 12 * k))) = j by omega]; exact if_pos (by omega)
  rw [cpy_out (by omega)]
  by_cases q5 : 8 + 12 * k ≤ j ∧ j < 8 + 12 * k + 12
  · rw [cpy_in q5, r12_in (by omega), show 8 + 12 * k + (0 + (j - (8 + 12 * k))) = j by omega]; exact if_pos (by omega)
  rw [cpy_out (by omega)]
  unfold cpR
  by_cases q6 : isPg j k
  · rw [if_pos q6, if_pos (by omega)]
  · rw [if_neg q6, if_neg (by omega)]
section
variable {G : GX} {sz : Nat} {m : Mem} {A D Z : Nat} {s t : Int → Int} {g h : Int → Option Nat}
theorem ok_copy2 {p : Int} (hA : Blk m A s g) (hd : A + 22 ≤ D ∨ D + 22 ≤ A) (hX : DoubS s) (hD4 : ∀ p, 0 ≤ p → p < 6 → s (164 + p) = -5 ∨ 0 ≤ s (164 + p)) (hp : 0 ≤ p ∧ p < 6) : Ok G kX2_copyFrom 1 [.inr (some (D + 4 + 3 * p.toNat)), .inr (some (A + 4 + 3 * p.toNat))] sz (BM m D t h) 0 0 (PV sz (BM m D (pgC s t p) h)) := by
  refine Ok.body [some (.inr (some (D + 4 + 3 * p.toNat))), some (.inr (some (A + 4 + 3 * p.toNat)))] rfl (Nat.le_of_ble_eq_true rfl) (by decide) ?_
  obtain ⟨a1, a2, a3⟩ := hA.2.2.2.2 p hp
  have hq : ∀ t h, BM m D t h (A + 4 + 3 * p.toNat) = obj 2 (pobj A s p) := fun t h => (BM_n (by omega)).trans a1
  have hc : ∀ t h, BM m D t h (A + 5 + 3 * p.toNat) = iar 12 (r12 s (8 + 12 * p)) := fun t h => (BM_n (by omega)).trans a2
  have hk : ∀ t h, BM m D t h (A + 6 + 3 * p.toNat) = iar 12 (r12 s (80 + 12 * p)) := fun t h => (BM_n (by omega)).trans a3
  have hX2 := hX p hp.1 hp.2
  have hu := undr_dr (hD4 p hp.1 hp.2)
  have cf : ∀ (f g : Int → Int), Cl f → Cl g → (fun j => if 0 ≤ j ∧ j < 0 + 12 then f (0 + (j - 0)) else g j) = f := fun f g hf hg => by
    funext j
    by_cases w : 0 ≤ j ∧ j < 0 + 12
    · rw [if_pos w]; congr 1; omega
    · rw [if_neg w, hf j (by omega), hg j (by omega)]
  refine V.ald1 aX2_copyFrom_0 ?_
  refine V.getf aX2_copyFrom_1 fl_RX2_9 (hq _ _) rfl ?_
  refine V.iconst aX2_copyFrom_4 (by decide) ?_
  refine V.ald0 aX2_copyFrom_5 ?_
  refine U.gfP aX2_copyFrom_6 fl_RX2_9 (by omega) rfl ?_
  refine V.iconst aX2_copyFrom_9 (by decide) ?_
  refine V.bipush aX2_copyFrom_10 (by decide) (by decide) ?_
  refine V.copy aX2_copyFrom_12 gl_RX2_18 gi_RJ10 (hc _ _) (BM_c hp) (by omega) (by decide) (by decide) ?_
  rw [cf _ _ (fun j hj => r12_out hj) (fun j hj => r12_out hj)]
  refine V.mem (BM_wc hp (fun j hj => r12_out hj)).symm ?_
  refine V.ald1 aX2_copyFrom_15 ?_
  refine V.getf aX2_copyFrom_16 fl_RX2_15 (hq _ _) rfl ?_
  refine V.iconst aX2_copyFrom_19 (by decide) ?_
  refine V.ald0 aX2_copyFrom_20 ?_
  refine U.gfP aX2_copyFrom_21 fl_RX2_15 (by omega) rfl ?_
  refine V.iconst aX2_copyFrom_24 (by decide) ?_
  refine V.bipush aX2_copyFrom_25 (by decide) (by decide) ?_
  refine V.copy aX2_copyFrom_27 gl_RX2_18 gi_RJ10 (hk _ _) (BM_k hp) (by omega) (by decide) (by decide) ?_
  rw [cf _ _ (fun j hj => r12_out hj) (fun j hj => r12_out hj)]
  refine V.mem (BM_wk hp (fun j hj => r12_out hj)).symm ?_
  refine V.ald0 aX2_copyFrom_30 ?_
  refine V.ald1 aX2_copyFrom_31 ?_
  refine V.getf aX2_copyFrom_32 fl_RX2_24 (hq _ _) rfl ?_
  refine U.pfP2 aX2_copyFrom_35 fl_RX2_24 (by omega) ?_
  refine V.ald0 aX2_copyFrom_38 ?_
  refine V.ald1 aX2_copyFrom_39 ?_
  refine V.getf aX2_copyFrom_40 fl_RX2_28 (hq _ _) rfl ?_
  refine U.pfP3 aX2_copyFrom_43 fl_RX2_28 (by omega) (by omega) ?_
  refine V.ald0 aX2_copyFrom_46 ?_
  refine V.ald1 aX2_copyFrom_47 ?_
  refine V.getf aX2_copyFrom_48 fl_RX2_32 (hq _ _) rfl ?_
  refine U.pfP4 aX2_copyFrom_51 fl_RX2_32 hu.2 hp ?_
  rw [hu.1]
  refine V.ret aX2_copyFrom_54 rfl (by decide) ?_
  exact PV.of rfl
theorem ok_copy1 (hA : Blk m A s g) (hd : A + 22 ≤ D ∨ D + 22 ≤ A) (hS : SlotsR Z m g) (hZ : D + 22 ≤ Z) : Ok G kX1_copyFrom 0 [.inr (some (D + 2)), .inr (some (A + 2))] sz (BM m D t h) 0 0 (fun ret z m' => ret = none ∧ z = sz ∧ ∃ h', (∀ i, 0 ≤ i → i < 100 → h' i = g i) ∧ m' = BM m D (upI (upI (upI (upI t 2 (s 2)) 3 (s 3)) 4 (s 4)) 1 (s 1)) h') := by
  refine Ok.body [some (.inr (some (D + 2))), some (.inr (some (A + 2))), none] rfl (Nat.le_of_ble_eq_true rfl) (by decide) ?_
  have hq : ∀ t h, BM m D t h (A + 2) = obj 1 (lobj A s) := fun t h => (BM_n (by omega)).trans hA.2.2.1
  have he : ∀ t h, BM m D t h (A + 3) = rar 0 100 g := fun t h => (BM_n (by omega)).trans hA.2.2.2.1
  have loop : ∀ (n : Nat) (k : Int), (100 - k).toNat < n → 0 ≤ k → k ≤ 100 → V G kX1_copyFrom (rmM 0 0 0) (QfM G (fun ret z m' => ret = none ∧ z = sz ∧ ∃ h', (∀ i, 0 ≤ i → i < 100 → h' i = g i) ∧ m' = BM m D (upI (upI (upI (upI t 2 (s 2)) 3 (s 3)) 4 (s 4)) 1 (s 1)) h') 0 0) 2 [some (.inr (some (D + 2))), some (.inr (some (A + 2))), some (.inl k)] [] sz (BM m D t (fun i => if 0 ≤ i ∧ i < k then g i else h i)) 0 0 := by
    intro n
    induction n with
    | zero => intro k hh; omega
    | succ n ih =>
      intro k hn hk1 hk2
      refine V.ild2 aX1_copyFrom_2 ?_
      refine V.bipush aX1_copyFrom_3 (by decide) (by decide) ?_
      refine V.icmp_ge aX1_copyFrom_5 (tgt := 26) (by decide) (fun c5 => ?_) (fun c5 => ?_)
      · refine V.ald0 aX1_copyFrom_26 ?_
        refine V.ald1 aX1_copyFrom_27 ?_
        refine V.getf aX1_copyFrom_28 fl_RX1_21 (hq _ _) rfl ?_
        refine U.pfL1 aX1_copyFrom_31 fl_RX1_21 ?_
        refine V.ald0 aX1_copyFrom_34 ?_
        refine V.ald1 aX1_copyFrom_35 ?_
        refine V.getf aX1_copyFrom_36 fl_RX1_24 (hq _ _) rfl ?_
        refine U.pfL2 aX1_copyFrom_39 fl_RX1_24 ?_
        refine V.ald0 aX1_copyFrom_42 ?_
        refine V.ald1 aX1_copyFrom_43 ?_
        refine V.getf aX1_copyFrom_44 fl_RX1_27 (hq _ _) rfl ?_
        refine U.pfL3 aX1_copyFrom_47 fl_RX1_27 ?_
        refine V.ald0 aX1_copyFrom_50 ?_
        refine V.ald1 aX1_copyFrom_51 ?_
        refine V.getf aX1_copyFrom_52 fl_RX1_17 (hq _ _) rfl ?_
        refine U.pfL4 aX1_copyFrom_55 fl_RX1_17 ?_
        refine V.ret aX1_copyFrom_58 rfl (by decide) ?_
        refine ⟨rfl, rfl, (fun i => if 0 ≤ i ∧ i < k then g i else h i), fun i i0 i1 => if_pos (show 0 ≤ i ∧ i < k by omega), ?_⟩
        refine BM_congr (fun j j0 j1 => ?_)
        by_cases w1 : j = 1
        · subst w1; rw [upI_s, upI_s]
        · rw [upI_n w1, upI_n w1]
          by_cases w4 : j = 4
          · subst w4; rw [upI_s, upI_s]
          · rw [upI_n w4, upI_n w4]
            by_cases w3 : j = 3
            · subst w3; rw [upI_s, upI_s, upI_n (by decide), upI_s]; omega
            · rw [upI_n w3, upI_n w3, upI_n w3]
      · refine V.ald0 aX1_copyFrom_8 ?_
        refine U.gfL aX1_copyFrom_9 fl_RX1_11 rfl ?_
        refine V.ild2 aX1_copyFrom_12 ?_
        refine V.ald1 aX1_copyFrom_13 ?_
        refine V.getf aX1_copyFrom_14 fl_RX1_11 (hq _ _) rfl ?_
        refine V.ild2 aX1_copyFrom_17 ?_
        refine V.aald aX1_copyFrom_18 (he _ _) hk1 c5 ?_
        refine U.stE aX1_copyFrom_19 (by omega) (fun v hv => by have := hS k hk1 c5 v hv; exact ⟨Or.inr (by omega), this.2⟩) ?_
        refine V.inc2 aX1_copyFrom_20 (by omega) ?_
        refine V.goto aX1_copyFrom_23 (tgt := 2) (by decide) ?_
        refine V.mem ?_ (ih (k + 1) (by omega) (by omega) (by omega))
        congr 1
        funext i
        by_cases w : i = k
        · subst w; rw [upI_s, if_pos (by omega)]
        · rw [upI_n w]
          by_cases w2 : 0 ≤ i ∧ i < k
          · rw [if_pos w2, if_pos (by omega)]
          · rw [if_neg w2, if_neg (by omega)]
  refine V.iconst aX1_copyFrom_0 (by decide) ?_
  refine V.ist2 aX1_copyFrom_1 ?_
  refine V.mem ?_ (loop _ 0 (Nat.lt_succ_self _) (by decide) (by decide))
  congr 1
  funext i
  exact if_neg (by omega)
theorem ok_copy4 (hA : Blk m A s g) (hd : A + 22 ≤ D ∨ D + 22 ≤ A) (hS : SlotsR Z m g) (hZ : D + 22 ≤ Z) (hX : DoubS s) (hD4 : ∀ p, 0 ≤ p → p < 6 → s (164 + p) = -5 ∨ 0 ≤ s (164 + p)) : Ok G kX4_copyFrom 2 [.inr (some D), .inr (some A)] sz (BM m D t h) 0 0 (fun ret z m' => ret = none ∧ z = sz ∧ ∃ h', (∀ i, 0 ≤ i → i < 100 → h' i = g i) ∧ m' = BM m D s h') := by
  refine Ok.body [some (.inr (some D)), some (.inr (some A)), none] rfl (Nat.le_of_ble_eq_true rfl) (by decide) ?_
  have hq : ∀ t h, BM m D t h A = obj 4 (sobj A s) := fun t h => (BM_n (by omega)).trans hA.1
  have hr : ∀ t h, BM m D t h (A + 1) = rar 2 6 (pgs A) := fun t h => (BM_n (by omega)).trans hA.2.1
  have ho2 : ∀ t h, BM m D t h (A + 2) = obj 1 (lobj A s) := fun t h => (BM_n (by omega)).trans hA.2.2.1
  have loop : ∀ (n : Nat) (k : Int), (6 - k).toNat < n → 0 ≤ k → k ≤ 6 → V G kX4_copyFrom (rmM 2 0 0) (QfM G (fun ret z m' => ret = none ∧ z = sz ∧ ∃ h', (∀ i, 0 ≤ i → i < 100 → h' i = g i) ∧ m' = BM m D s h') 0 0) 2 [some (.inr (some D)), some (.inr (some A)), some (.inl k)] [] sz (BM m D (cpR s t k) h) 0 0 := by
    intro n
    induction n with
    | zero => intro k hh; omega
    | succ n ih =>
      intro k hn hk1 hk2
      refine V.ild2 aX4_copyFrom_2 ?_
      refine V.bipush aX4_copyFrom_3 (by decide) (by decide) ?_
      refine V.icmp_ge aX4_copyFrom_5 (tgt := 29) (by decide) (fun c5 => ?_) (fun c5 => ?_)
      · refine V.ald0 aX4_copyFrom_29 ?_
        refine U.gfS aX4_copyFrom_30 fl_RX4_20 rfl ?_
        refine V.ald1 aX4_copyFrom_33 ?_
        refine V.getf aX4_copyFrom_34 fl_RX4_20 (hq _ _) rfl ?_
        refine call_X1_copyFrom aX4_copyFrom_37 gl_RX4_33 (ok_copy1 hA hd hS hZ) (BM_L) (Nat.le_of_ble_eq_true rfl) (by decide) (fun r37 z37 m37 h37 => ?_)
        obtain ⟨rfl, rfl, h', hh, rfl⟩ := h37
        refine V.ald0 aX4_copyFrom_40 ?_
        refine V.ald1 aX4_copyFrom_41 ?_
        refine V.getf aX4_copyFrom_42 fl_RX4_24 (hq _ _) rfl ?_
        refine U.pfS2 aX4_copyFrom_45 fl_RX4_24 ?_
        refine V.ald0 aX4_copyFrom_48 ?_
        refine V.ald1 aX4_copyFrom_49 ?_
        refine V.getf aX4_copyFrom_50 fl_RX4_36 (hq _ _) rfl ?_
        refine U.pfS3 aX4_copyFrom_53 fl_RX4_36 ?_
        refine V.ald0 aX4_copyFrom_56 ?_
        refine V.ald1 aX4_copyFrom_57 ?_
        refine V.getf aX4_copyFrom_58 fl_RX4_39 (hq _ _) rfl ?_
        refine U.pfS4 aX4_copyFrom_61 fl_RX4_39 ?_
        refine V.ald0 aX4_copyFrom_64 ?_
        refine V.ald1 aX4_copyFrom_65 ?_
        refine V.getf aX4_copyFrom_66 fl_RX4_42 (hq _ _) rfl ?_
        refine U.pfS5 aX4_copyFrom_69 fl_RX4_42 ?_
        refine V.ret aX4_copyFrom_72 rfl (by decide) ?_
        refine ⟨rfl, rfl, h', hh, ?_⟩
        refine BM_congr (fun j j0 j1 => ?_)
        by_cases w7 : j = 7
        · subst w7; rw [upI_s]
        rw [upI_n w7]
        by_cases w6 : j = 6
        · subst w6; rw [upI_s]
        rw [upI_n w6]
        by_cases w5 : j = 5
        · subst w5; rw [upI_s]
        rw [upI_n w5]
        by_cases w0 : j = 0
        · subst w0; rw [upI_s]
        rw [upI_n w0]
        by_cases w1 : j = 1
        · subst w1; rw [upI_s]
        rw [upI_n w1]
        by_cases w4 : j = 4
        · subst w4; rw [upI_s]
        rw [upI_n w4]
        by_cases w3 : j = 3
        · subst w3; rw [upI_s]
        rw [upI_n w3]
        by_cases w2 : j = 2
        · subst w2; rw [upI_s]
        rw [upI_n w2]
        exact (show cpR s t k j = s j from if_pos (show isPg j k by omega))
      · refine V.ald0 aX4_copyFrom_8 ?_
        refine U.gfS aX4_copyFrom_9 fl_RX4_11 rfl ?_
        refine V.ild2 aX4_copyFrom_12 ?_
        refine U.aaP aX4_copyFrom_13 (by omega) ?_
        refine V.ald1 aX4_copyFrom_14 ?_
        refine V.getf aX4_copyFrom_15 fl_RX4_11 (hq _ _) rfl ?_
        refine V.ild2 aX4_copyFrom_18 ?_
        refine V.aald aX4_copyFrom_19 (hr _ _) hk1 c5 ?_
        rw [pgs_in ⟨hk1, c5⟩]
        refine call_X2_copyFrom aX4_copyFrom_20 gl_RX4_29 (ok_copy2 hA hd hX hD4 (by omega)) ((BM_p (by omega))) (Nat.le_of_ble_eq_true rfl) (by decide) (goV ?_)
        refine V.inc2 aX4_copyFrom_23 (by omega) ?_
        refine V.goto aX4_copyFrom_26 (tgt := 2) (by decide) ?_
        exact V.mem (BM_congr (pgC_cpR ⟨hk1, c5⟩)) (ih (k + 1) (by omega) (by omega) (by omega))
  refine V.iconst aX4_copyFrom_0 (by decide) ?_
  refine V.ist2 aX4_copyFrom_1 ?_
  refine V.mem ?_ (loop _ 0 (Nat.lt_succ_self _) (by decide) (by decide))
  congr 1
  funext j
  exact if_neg (by omega)
end
