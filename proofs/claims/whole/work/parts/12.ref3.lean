-- the reference's methods: contracts (part three): what is dropped, times, what is applied
def appF (f : Int → Int) (a : Int) (c0 c : Int → Int) (k : Int) : Int → Int :=
  if f (a + 1) = 0 then upI c k (f (a + 5 + k)) else if f (a + 1) = 3 then upI c ((k + f (a + 5)) % 12) (c0 k) else if f (a + 2) ≤ k ∧ k ≤ f (a + 2) + f (a + 3) - 1 then upI c k (if f (a + 1) = 1 then f (a + 5) else if f (a + 1) = 2 then (c0 k + f (a + 5)) % 10 else f (a + 5 + k - f (a + 2))) else c
def applyF (f : Int → Int) (a : Int) (c : Int → Int) : Int → Int := foldI (appF f a c) c 0 12
def mkF (page kind fr many value : Int) (mk : Int → Int) : Int → Int := upI (upI (upI (upI (upI (cpy (fun _ => 0) 0 mk 0 17) 0 page) 1 kind) 2 fr) 3 many) 5 value
def picF (page : Int) (cl mk : Int → Int) : Int → Int := cpy cl 0 (mkF page 0 0 12 0 mk) 5 12
def restF (s : Int → Int) (p e : Int) (q : (Int → Int) × (Int → Int)) (k : Int) : (Int → Int) × (Int → Int) := if needsP s p k e then (applyF s (atE s k) q.1, cpy q.1 0 q.2 0 12) else q
theorem drpF_s {s : Int → Int} {most : Int} {f : Nat} {n left : Int} (h : most < left ∧ s 2 + n < s 4 ∧ ¬ isN s (s 2 + n)) : drpF s most (f + 1) n left = drpF s most f (n + 1) (left - sizeA s (atE s (s 2 + n))) := if_pos h
section
variable {G : GX} {sz : Nat} {m : Mem} {o : Nat} {s sp pa sh tx cl bf mk : Int → Int} {sv ish ln st : Int}
theorem timeOf_b (hE : EntS s) {p : Int} {z : Int} (hz : 0 ≤ z ∧ z ≤ 5) {k : Int} (h1 : s 2 ≤ k) (h2 : k ≤ s 3) : 0 ≤ foldI (fun sum k => sum + (if needsP s p k (s 3) then timeA s (atE s k) else 0)) z (s 2) k ∧ foldI (fun sum k => sum + (if needsP s p k (s 3) then timeA s (atE s k) else 0)) z (s 2) k ≤ 5 + 27 * (k - s 2) :=
  foldI_indB (fun k x => 0 ≤ x ∧ x ≤ 5 + 27 * (k - s 2)) (by omega) (fun k x g1 g2 g3 => by have := hE.tm g1 g2; dsimp only [atE]; split <;> omega) k h1 h2
theorem ok_timeOf {p : Int} (hN : Num s) (hE : EntS s) (hp : 0 ≤ p ∧ p < 6) : Ok G kX6_timeOf 4 [.inr (some o), .inl p] sz (MM m o s sp pa sv sh ish tx ln cl bf mk st) 0 0 (PI (timeOf s p) sz (MM m o s sp pa sv sh ish tx ln cl bf mk st)) := by
  refine Ok.body [some (.inr (some o)), some (.inl p), none, none] rfl (Nat.le_of_ble_eq_true rfl) (by decide) ?_
  obtain ⟨n0, n1, n2, n3, n4⟩ := id hN
  have loop : ∀ (n : Nat) (k r : Int), (s 3 - k).toNat < n → s 2 ≤ k → k ≤ s 3 → r = foldI (fun sum k => sum + (if needsP s p k (s 3) then timeA s (atE s k) else 0)) (if start s p (s 3) = -5 then 5 else 0) (s 2) k → V G kX6_timeOf (rmM 4 0 0) (QfM G (PI (timeOf s p) sz (MM m o s sp pa sv sh ish tx ln cl bf mk st)) 0 0) 29 [some (.inr (some o)), some (.inl p), some (.inl r), some (.inl k)] [] sz (MM m o s sp pa sv sh ish tx ln cl bf mk st) 0 0 := by
    intro n
    induction n with
    | zero => intro k r h; omega
    | succ n ih =>
      intro k r hn hk1 hk2 hr
      have hb := timeOf_b (p := p) hE (z := if start s p (s 3) = -5 then 5 else 0) (by split <;> omega) hk1 hk2
      rw [← hr] at hb
      refine V.ild3 aX6_timeOf_29 ?_
      refine V.ald0 aX6_timeOf_30 ?_
      refine M.gf aX6_timeOf_31 fl_RX6_7 rfl ?_
      refine V.iconst aX6_timeOf_34 (by decide) ?_
      refine M.lds aX6_timeOf_35 (by omega) ?_
      refine V.icmp_ge aX6_timeOf_36 (tgt := 79) (by decide) (fun c36 => ?_) (fun c36 => ?_)
      · refine V.ild2 aX6_timeOf_79 ?_
        refine V.iret aX6_timeOf_80 rfl (by decide) ?_
        exact PI.of (by rw [hr, show k = s 3 by omega]; rfl)
      · have q3 := hE.tm hk1 (by omega)
        refine V.ild2 aX6_timeOf_39 ?_
        refine V.ald0 aX6_timeOf_40 ?_
        refine V.ild1 aX6_timeOf_41 ?_
        refine V.ild3 aX6_timeOf_42 ?_
        refine V.ald0 aX6_timeOf_43 ?_
        refine M.gf aX6_timeOf_44 fl_RX6_7 rfl ?_
        refine V.iconst aX6_timeOf_47 (by decide) ?_
        refine M.lds aX6_timeOf_48 (by omega) ?_
        refine call_X6_needs aX6_timeOf_49 gl_RX6_73 (ok_needs hN hp (by omega) (by omega) (by omega)) (MM_o) (Nat.le_of_ble_eq_true rfl) (by decide) (goI ?_)
        refine V.ifb_eq aX6_timeOf_52 (tgt := 70) (by decide) (fun c52 => ?_) (fun c52 => ?_)
        · refine V.iconst aX6_timeOf_70 (by decide) ?_
          refine V.iadd aX6_timeOf_71 (by omega) ?_
          refine V.ist2 aX6_timeOf_72 ?_
          refine V.inc3 aX6_timeOf_73 (by omega) ?_
          refine V.goto aX6_timeOf_76 (tgt := 29) (by decide) ?_
          refine ih (k + 1) _ (by omega) (by omega) (by omega) ?_
          rw [foldI_s (by omega), ← hr]
          first | rw [if_pos c52] | rw [if_neg c52]
        · refine V.ald0 aX6_timeOf_55 ?_
          refine M.gf aX6_timeOf_56 fl_RX6_7 rfl ?_
          refine V.ald0 aX6_timeOf_59 ?_
          refine V.ild3 aX6_timeOf_60 ?_
          refine call_X6_at aX6_timeOf_61 gl_RX6_55 (ok_at (by omega) (by omega) (by omega)) (MM_o) (Nat.le_of_ble_eq_true rfl) (by decide) (goI ?_)
          refine call_X6_timeAt aX6_timeOf_64 gl_RX6_80 (ok_timeAt MM_s (by omega) (by omega) (by omega) (hE k hk1 (by omega))) (Nat.le_of_ble_eq_true rfl) (by decide) (goI ?_)
          refine V.goto aX6_timeOf_67 (tgt := 71) (by decide) ?_
          refine V.iadd aX6_timeOf_71 (by omega) ?_
          refine V.ist2 aX6_timeOf_72 ?_
          refine V.inc3 aX6_timeOf_73 (by omega) ?_
          refine V.goto aX6_timeOf_76 (tgt := 29) (by decide) ?_
          refine ih (k + 1) _ (by omega) (by omega) (by omega) ?_
          rw [foldI_s (by omega), ← hr]
          first | rw [if_pos c52] | rw [if_neg c52]
  refine V.ald0 aX6_timeOf_0 ?_
  refine V.ild1 aX6_timeOf_1 ?_
  refine V.ald0 aX6_timeOf_2 ?_
  refine M.gf aX6_timeOf_3 fl_RX6_7 rfl ?_
  refine V.iconst aX6_timeOf_6 (by decide) ?_
  refine M.lds aX6_timeOf_7 (by omega) ?_
  refine call_X6_start aX6_timeOf_8 gl_RX6_70 (ok_start hN hp (by omega) (by omega)) (MM_o) (Nat.le_of_ble_eq_true rfl) (by decide) (goI ?_)
  refine V.bipush aX6_timeOf_11 (by decide) (by decide) ?_
  refine V.icmp_ne aX6_timeOf_13 (tgt := 20) (by decide) (fun c13 => ?_) (fun c13 => ?_)
  · refine V.iconst aX6_timeOf_20 (by decide) ?_
    refine V.ist2 aX6_timeOf_21 ?_
    refine V.ald0 aX6_timeOf_22 ?_
    refine M.gf aX6_timeOf_23 fl_RX6_7 rfl ?_
    refine V.iconst aX6_timeOf_26 (by decide) ?_
    refine M.lds aX6_timeOf_27 (by omega) ?_
    refine V.ist3 aX6_timeOf_28 ?_
    exact loop _ _ _ (Nat.lt_succ_self _) (Int.le_refl _) (by omega) (by rw [foldI_0 (Int.le_refl _)]; first | rw [if_pos c13] | rw [if_neg c13])
  · refine V.iconst aX6_timeOf_16 (by decide) ?_
    refine V.goto aX6_timeOf_17 (tgt := 21) (by decide) ?_
    refine V.ist2 aX6_timeOf_21 ?_
    refine V.ald0 aX6_timeOf_22 ?_
    refine M.gf aX6_timeOf_23 fl_RX6_7 rfl ?_
    refine V.iconst aX6_timeOf_26 (by decide) ?_
    refine M.lds aX6_timeOf_27 (by omega) ?_
    refine V.ist3 aX6_timeOf_28 ?_
    exact loop _ _ _ (Nat.lt_succ_self _) (Int.le_refl _) (by omega) (by rw [foldI_0 (Int.le_refl _)]; first | rw [if_pos c13] | rw [if_neg c13])
theorem ok_droppable {most : Int} (hN : Num s) (hE : EntS s) (hm : -1000 ≤ most ∧ most ≤ 1000) : Ok G kX6_droppable 5 [.inr (some o), .inl most] sz (MM m o s sp pa sv sh ish tx ln cl bf mk st) 0 0 (PI (droppable s most) sz (MM m o s sp pa sv sh ish tx ln cl bf mk st)) := by
  refine Ok.body [some (.inr (some o)), some (.inl most), none, none] rfl (Nat.le_of_ble_eq_true rfl) (by decide) ?_
  obtain ⟨n0, n1, n2, n3, n4⟩ := id hN
  have loop : ∀ (n : Nat) (k r : Int), (s 4 - s 2 - k).toNat < n → 0 ≤ k → s 2 + k ≤ s 4 → (-(15 * k) ≤ r ∧ r ≤ 1500) → drpF s most ((s 4 - s 2 - k).toNat + 1) k r = droppable s most → V G kX6_droppable (rmM 5 0 0) (QfM G (PI (droppable s most) sz (MM m o s sp pa sv sh ish tx ln cl bf mk st)) 0 0) 7 [some (.inr (some o)), some (.inl most), some (.inl r), some (.inl k)] [] sz (MM m o s sp pa sv sh ish tx ln cl bf mk st) 0 0 := by
    intro n
    induction n with
    | zero => intro k r h; omega
    | succ n ih =>
      intro k r hn hk1 hk2 hb hr
      refine V.ild2 aX6_droppable_7 ?_
      refine V.ild1 aX6_droppable_8 ?_
      refine V.icmp_le aX6_droppable_9 (tgt := 72) (by decide) (fun c9 => ?_) (fun c9 => ?_)
      · refine V.ild3 aX6_droppable_72 ?_
        refine V.iret aX6_droppable_73 rfl (by decide) ?_
        exact PI.of (by rw [← hr, drpF, if_neg (by omega)])
      · refine V.ald0 aX6_droppable_12 ?_
        refine M.gf aX6_droppable_13 fl_RX6_7 rfl ?_
        refine V.iconst aX6_droppable_16 (by decide) ?_
        refine M.lds aX6_droppable_17 (by omega) ?_
        refine V.ild3 aX6_droppable_18 ?_
        refine V.iadd aX6_droppable_19 (by omega) ?_
        refine V.ald0 aX6_droppable_20 ?_
        refine M.gf aX6_droppable_21 fl_RX6_7 rfl ?_
        refine V.iconst aX6_droppable_24 (by decide) ?_
        refine M.lds aX6_droppable_25 (by omega) ?_
        refine V.icmp_ge aX6_droppable_26 (tgt := 72) (by decide) (fun c26 => ?_) (fun c26 => ?_)
        · refine V.ild3 aX6_droppable_72 ?_
          refine V.iret aX6_droppable_73 rfl (by decide) ?_
          exact PI.of (by rw [← hr, drpF, if_neg (by omega)])
        · refine V.ald0 aX6_droppable_29 ?_
          refine V.ald0 aX6_droppable_30 ?_
          refine M.gf aX6_droppable_31 fl_RX6_7 rfl ?_
          refine V.iconst aX6_droppable_34 (by decide) ?_
          refine M.lds aX6_droppable_35 (by omega) ?_
          refine V.ild3 aX6_droppable_36 ?_
          refine V.iadd aX6_droppable_37 (by omega) ?_
          refine call_X6_isNeeded aX6_droppable_38 gl_RX6_76 (ok_isNeeded hN hE (by omega) (by omega)) (MM_o) (Nat.le_of_ble_eq_true rfl) (by decide) (goI ?_)
          refine V.ifb_ne aX6_droppable_41 (tgt := 72) (by decide) (fun c41 => ?_) (fun c41 => ?_)
          · refine V.ild3 aX6_droppable_72 ?_
            refine V.iret aX6_droppable_73 rfl (by decide) ?_
            exact PI.of (by rw [← hr, drpF, if_neg (by omega)])
          · have q3 := hE.m3 (k := s 2 + k) (by omega) (by omega)
            have qs := hE.sz (k := s 2 + k) (by omega) (by omega)
            refine V.ild2 aX6_droppable_44 ?_
            refine V.ald0 aX6_droppable_45 ?_
            refine M.gf aX6_droppable_46 fl_RX6_7 rfl ?_
            refine V.ald0 aX6_droppable_49 ?_
            refine V.ald0 aX6_droppable_50 ?_
            refine M.gf aX6_droppable_51 fl_RX6_7 rfl ?_
            refine V.iconst aX6_droppable_54 (by decide) ?_
            refine M.lds aX6_droppable_55 (by omega) ?_
            refine V.ild3 aX6_droppable_56 ?_
            refine V.iadd aX6_droppable_57 (by omega) ?_
            refine call_X6_at aX6_droppable_58 gl_RX6_55 (ok_at (by omega) (by omega) (by omega)) (MM_o) (Nat.le_of_ble_eq_true rfl) (by decide) (goI ?_)
            refine call_X6_sizeAt aX6_droppable_61 gl_RX6_63 (ok_sizeAt MM_s (by omega) (by omega) (by omega) (by omega) (by omega)) (Nat.le_of_ble_eq_true rfl) (by decide) (goI ?_)
            refine V.isub aX6_droppable_64 (by omega) ?_
            refine V.ist2 aX6_droppable_65 ?_
            refine V.inc3 aX6_droppable_66 (by omega) ?_
            refine V.goto aX6_droppable_69 (tgt := 7) (by decide) ?_
            refine ih (k + 1) _ (by omega) (by omega) (by omega) (by omega) ?_
            rw [← hr, show (s 4 - s 2 - k).toNat + 1 = ((s 4 - s 2 - (k + 1)).toNat + 1) + 1 by omega]
            exact (drpF_s ⟨c9, c26, c41⟩).symm
  have hu := used_b2 hE hN
  refine V.ald0 aX6_droppable_0 ?_
  refine call_X6_used aX6_droppable_1 gl_RX6_91 (ok_used hN hE) (MM_o) (Nat.le_of_ble_eq_true rfl) (by decide) (goI ?_)
  refine V.ist2 aX6_droppable_4 ?_
  refine V.iconst aX6_droppable_5 (by decide) ?_
  refine V.ist3 aX6_droppable_6 ?_
  exact loop _ _ _ (Nat.lt_succ_self _) (by omega) (by omega) (by omega) (by rw [Int.sub_zero]; rfl)
theorem ok_usedWithout {many : Int} (hN : Num s) (hE : EntS s) (h0 : 0 ≤ many) (h1 : s 2 + many ≤ s 3) : Ok G kX6_usedWithout 3 [.inr (some o), .inl many] sz (MM m o s sp pa sv sh ish tx ln cl bf mk st) 0 0 (PI (usedW s many) sz (MM m o s sp pa sv sh ish tx ln cl bf mk st)) := by
  refine Ok.body [some (.inr (some o)), some (.inl many), none, none] rfl (Nat.le_of_ble_eq_true rfl) (by decide) ?_
  obtain ⟨n0, n1, n2, n3, n4⟩ := id hN
  have loop : ∀ (n : Nat) (k r : Int), (many - k).toNat < n → 0 ≤ k → k ≤ many → (-(15 * k) ≤ r ∧ r ≤ 1500) → r = foldI (fun sum k => sum - sizeA s (atE s (s 2 + k))) (used s) 0 k → V G kX6_usedWithout (rmM 3 0 0) (QfM G (PI (usedW s many) sz (MM m o s sp pa sv sh ish tx ln cl bf mk st)) 0 0) 7 [some (.inr (some o)), some (.inl many), some (.inl r), some (.inl k)] [] sz (MM m o s sp pa sv sh ish tx ln cl bf mk st) 0 0 := by
    intro n
    induction n with
    | zero => intro k r h; omega
    | succ n ih =>
      intro k r hn hk1 hk2 hb hr
      refine V.ild3 aX6_usedWithout_7 ?_
      refine V.ild1 aX6_usedWithout_8 ?_
      refine V.icmp_ge aX6_usedWithout_9 (tgt := 40) (by decide) (fun c9 => ?_) (fun c9 => ?_)
      · refine V.ild2 aX6_usedWithout_40 ?_
        refine V.iret aX6_usedWithout_41 rfl (by decide) ?_
        exact PI.of (by rw [hr, show k = many by omega]; rfl)
      · have q3 := hE.m3 (k := s 2 + k) (by omega) (by omega)
        have qs := hE.sz (k := s 2 + k) (by omega) (by omega)
        refine V.ild2 aX6_usedWithout_12 ?_
        refine V.ald0 aX6_usedWithout_13 ?_
        refine M.gf aX6_usedWithout_14 fl_RX6_7 rfl ?_
        refine V.ald0 aX6_usedWithout_17 ?_
        refine V.ald0 aX6_usedWithout_18 ?_
        refine M.gf aX6_usedWithout_19 fl_RX6_7 rfl ?_
        refine V.iconst aX6_usedWithout_22 (by decide) ?_
        refine M.lds aX6_usedWithout_23 (by omega) ?_
        refine V.ild3 aX6_usedWithout_24 ?_
        refine V.iadd aX6_usedWithout_25 (by omega) ?_
        refine call_X6_at aX6_usedWithout_26 gl_RX6_55 (ok_at (by omega) (by omega) (by omega)) (MM_o) (Nat.le_of_ble_eq_true rfl) (by decide) (goI ?_)
        refine call_X6_sizeAt aX6_usedWithout_29 gl_RX6_63 (ok_sizeAt MM_s (by omega) (by omega) (by omega) (by omega) (by omega)) (Nat.le_of_ble_eq_true rfl) (by decide) (goI ?_)
        refine V.isub aX6_usedWithout_32 (by omega) ?_
        refine V.ist2 aX6_usedWithout_33 ?_
        refine V.inc3 aX6_usedWithout_34 (by omega) ?_
        refine V.goto aX6_usedWithout_37 (tgt := 7) (by decide) ?_
        refine ih (k + 1) _ (by omega) (by omega) (by omega) (by omega) (by rw [foldI_s (by omega), ← hr])
  have hu := used_b2 hE hN
  refine V.ald0 aX6_usedWithout_0 ?_
  refine call_X6_used aX6_usedWithout_1 gl_RX6_91 (ok_used hN hE) (MM_o) (Nat.le_of_ble_eq_true rfl) (by decide) (goI ?_)
  refine V.ist2 aX6_usedWithout_4 ?_
  refine V.iconst aX6_usedWithout_5 (by decide) ?_
  refine V.ist3 aX6_usedWithout_6 ?_
  exact loop _ _ _ (Nat.lt_succ_self _) (by omega) (by omega) (by omega) (foldI_0 (Int.le_refl _)).symm
theorem ok_makes {page kind fr many value : Int} : Ok G kX6_makes 0 [.inr (some o), .inl page, .inl kind, .inl fr, .inl many, .inl value] sz (MM m o s sp pa sv sh ish tx ln cl bf mk st) 0 0 (PV sz (MM m o s sp pa sv sh ish tx ln cl bf (mkF page kind fr many value mk) st)) := by
  refine Ok.body [some (.inr (some o)), some (.inl page), some (.inl kind), some (.inl fr), some (.inl many), some (.inl value), none] rfl (Nat.le_of_ble_eq_true rfl) (by decide) ?_
  have loop : ∀ (n : Nat) (k : Int), (17 - k).toNat < n → 0 ≤ k → k ≤ 17 → V G kX6_makes (rmM 0 0 0) (QfM G (PV sz (MM m o s sp pa sv sh ish tx ln cl bf (mkF page kind fr many value mk) st)) 0 0) 3 [some (.inr (some o)), some (.inl page), some (.inl kind), some (.inl fr), some (.inl many), some (.inl value), some (.inl k)] [] sz (MM m o s sp pa sv sh ish tx ln cl bf (cpy (fun _ => 0) 0 mk 0 k) st) 0 0 := by
    intro n
    induction n with
    | zero => intro k h; omega
    | succ n ih =>
      intro k hn hk1 hk2
      refine V.ild6 aX6_makes_3 ?_
      refine V.bipush aX6_makes_5 (by decide) (by decide) ?_
      refine V.icmp_ge aX6_makes_7 (tgt := 24) (by decide) (fun c7 => ?_) (fun c7 => ?_)
      · refine V.ald0 aX6_makes_24 ?_
        refine M.gf aX6_makes_25 fl_RX6_32 rfl ?_
        refine V.iconst aX6_makes_28 (by decide) ?_
        refine V.ild1 aX6_makes_29 ?_
        refine M.stmk aX6_makes_30 (by omega) ?_
        refine V.ald0 aX6_makes_31 ?_
        refine M.gf aX6_makes_32 fl_RX6_32 rfl ?_
        refine V.iconst aX6_makes_35 (by decide) ?_
        refine V.ild2 aX6_makes_36 ?_
        refine M.stmk aX6_makes_37 (by omega) ?_
        refine V.ald0 aX6_makes_38 ?_
        refine M.gf aX6_makes_39 fl_RX6_32 rfl ?_
        refine V.iconst aX6_makes_42 (by decide) ?_
        refine V.ild3 aX6_makes_43 ?_
        refine M.stmk aX6_makes_44 (by omega) ?_
        refine V.ald0 aX6_makes_45 ?_
        refine M.gf aX6_makes_46 fl_RX6_32 rfl ?_
        refine V.iconst aX6_makes_49 (by decide) ?_
        refine V.ild4 aX6_makes_50 ?_
        refine M.stmk aX6_makes_52 (by omega) ?_
        refine V.ald0 aX6_makes_53 ?_
        refine M.gf aX6_makes_54 fl_RX6_32 rfl ?_
        refine V.iconst aX6_makes_57 (by decide) ?_
        refine V.ild5 aX6_makes_58 ?_
        refine M.stmk aX6_makes_60 (by omega) ?_
        refine V.ret aX6_makes_61 rfl (by decide) ?_
        exact PV.of (by rw [show k = 17 by omega]; rfl)
      · refine V.ald0 aX6_makes_10 ?_
        refine M.gf aX6_makes_11 fl_RX6_32 rfl ?_
        refine V.ild6 aX6_makes_14 ?_
        refine V.iconst aX6_makes_16 (by decide) ?_
        refine M.stmk aX6_makes_17 (by omega) ?_
        refine V.inc6 aX6_makes_18 (by omega) ?_
        refine V.goto aX6_makes_21 (tgt := 3) (by decide) ?_
        rw [cpy_s hk1 rfl (by omega)]
        exact ih (k + 1) (by omega) (by omega) (by omega)
  refine V.iconst aX6_makes_0 (by decide) ?_
  refine V.ist6 aX6_makes_1 ?_
  refine V.mem (m2 := (MM m o s sp pa sv sh ish tx ln cl bf (cpy (fun _ => 0) 0 mk 0 0) st)) (by rw [cpy_0 (by decide)]) ?_
  exact loop _ 0 (Nat.lt_succ_self _) (by decide) (by decide)
theorem ok_pictures {page : Int} : Ok G kX6_pictures 1 [.inr (some o), .inl page] sz (MM m o s sp pa sv sh ish tx ln cl bf mk st) 0 0 (PV sz (MM m o s sp pa sv sh ish tx ln cl bf (picF page cl mk) st)) := by
  refine Ok.body [some (.inr (some o)), some (.inl page), none] rfl (Nat.le_of_ble_eq_true rfl) (by decide) ?_
  have loop : ∀ (n : Nat) (k : Int), (12 - k).toNat < n → 0 ≤ k → k ≤ 12 → V G kX6_pictures (rmM 1 0 0) (QfM G (PV sz (MM m o s sp pa sv sh ish tx ln cl bf (picF page cl mk) st)) 0 0) 12 [some (.inr (some o)), some (.inl page), some (.inl k)] [] sz (MM m o s sp pa sv sh ish tx ln cl bf (cpy cl 0 (mkF page 0 0 12 0 mk) 5 k) st) 0 0 := by
    intro n
    induction n with
    | zero => intro k h; omega
    | succ n ih =>
      intro k hn hk1 hk2
      refine V.ild2 aX6_pictures_12 ?_
      refine V.bipush aX6_pictures_13 (by decide) (by decide) ?_
      refine V.icmp_ge aX6_pictures_15 (tgt := 38) (by decide) (fun c15 => ?_) (fun c15 => ?_)
      · refine V.ret aX6_pictures_38 rfl (by decide) ?_
        exact PV.of (by rw [show k = 12 by omega]; rfl)
      · refine V.ald0 aX6_pictures_18 ?_
        refine M.gf aX6_pictures_19 fl_RX6_32 rfl ?_
        refine V.iconst aX6_pictures_22 (by decide) ?_
        refine V.ild2 aX6_pictures_23 ?_
        refine V.iadd aX6_pictures_24 (by omega) ?_
        refine V.ald0 aX6_pictures_25 ?_
        refine M.gf aX6_pictures_26 fl_RX6_26 rfl ?_
        refine V.ild2 aX6_pictures_29 ?_
        refine M.ldcl aX6_pictures_30 (by omega) ?_
        refine M.stmk aX6_pictures_31 (by omega) ?_
        refine V.inc2 aX6_pictures_32 (by omega) ?_
        refine V.goto aX6_pictures_35 (tgt := 12) (by decide) ?_
        rw [cpy_s hk1 (by rw [Int.zero_add]) rfl]
        exact ih (k + 1) (by omega) (by omega) (by omega)
  refine V.ald0 aX6_pictures_0 ?_
  refine V.ild1 aX6_pictures_1 ?_
  refine V.iconst aX6_pictures_2 (by decide) ?_
  refine V.iconst aX6_pictures_3 (by decide) ?_
  refine V.bipush aX6_pictures_4 (by decide) (by decide) ?_
  refine V.iconst aX6_pictures_6 (by decide) ?_
  refine call_X6_makes aX6_pictures_7 gl_RX6_102 (ok_makes) (MM_o) (Nat.le_of_ble_eq_true rfl) (by decide) (goV ?_)
  refine V.iconst aX6_pictures_10 (by decide) ?_
  refine V.ist2 aX6_pictures_11 ?_
  refine V.mem (m2 := (MM m o s sp pa sv sh ish tx ln cl bf (cpy cl 0 (mkF page 0 0 12 0 mk) 5 0) st)) (by rw [cpy_0 (by decide)]) ?_
  exact loop _ 0 (Nat.lt_succ_self _) (by decide) (by decide)
theorem ok_applies {a nn : Nat} {f : Int → Int} {b : Int} (ha : ∀ cl bf, (MM m o s sp pa sv sh ish tx ln cl bf mk st) a = iar nn f) (h0 : 0 ≤ b) (h1 : b + 17 ≤ nn) (h2 : b ≤ 100000) (h3 : entOK f b) (hc : ∀ k, 0 ≤ k → k < 12 → 0 ≤ cl k ∧ cl k ≤ 9) : Ok G kX6_applies 1 [.inr (some o), .inr (some a), .inl b] sz (MM m o s sp pa sv sh ish tx ln cl bf mk st) 0 0 (PV sz (MM m o s sp pa sv sh ish tx ln (applyF f b cl) (cpy cl 0 bf 0 12) mk st)) := by
  refine Ok.body [some (.inr (some o)), some (.inr (some a)), some (.inl b), none, none, none] rfl (Nat.le_of_ble_eq_true rfl) (by decide) ?_
  obtain ⟨-, g1, g2, -, g4, g5, g6, g7, g8⟩ := id h3
  have ha0 := ha cl bf
  have loop2 : ∀ (n : Nat) (k : Int), (12 - k).toNat < n → 0 ≤ k → k ≤ 12 → V G kX6_applies (rmM 1 0 0) (QfM G (PV sz (MM m o s sp pa sv sh ish tx ln (applyF f b cl) (cpy cl 0 bf 0 12) mk st)) 0 0) 46 [some (.inr (some o)), some (.inr (some a)), some (.inl b), some (.inl (f (b + 1))), some (.inl (f (b + 2))), some (.inl k)] [] sz (MM m o s sp pa sv sh ish tx ln (foldI (appF f b cl) cl 0 k) (cpy cl 0 bf 0 12) mk st) 0 0 := by
    intro n
    induction n with
    | zero => intro k h; omega
    | succ n ih =>
      intro k hn hk1 hk2
      have ha1 := ha (foldI (appF f b cl) cl 0 k) (cpy cl 0 bf 0 12)
      refine V.ild5 aX6_applies_46 ?_
      refine V.bipush aX6_applies_48 (by decide) (by decide) ?_
      refine V.icmp_ge aX6_applies_50 (tgt := 187) (by decide) (fun c50 => ?_) (fun c50 => ?_)
      · refine V.ret aX6_applies_187 rfl (by decide) ?_
        exact PV.of (by rw [show k = 12 by omega]; rfl)
      · have q4 := g4 k hk1 (by omega)
        have qc := hc k hk1 (by omega)
        have eb : cpy cl 0 bf 0 12 k = cl k := by rw [cpy_in (by omega)]; congr 1; omega
        have fs := foldI_s (f := appF f b cl) (z := cl) (a := 0) (k := k) hk1
        refine V.ild3 aX6_applies_53 ?_
        refine V.if_ne aX6_applies_54 (tgt := 75) (by decide) (fun c54 => ?_) (fun c54 => ?_)
        · refine V.ild3 aX6_applies_75 ?_
          refine V.iconst aX6_applies_76 (by decide) ?_
          refine V.icmp_ne aX6_applies_77 (tgt := 106) (by decide) (fun c77 => ?_) (fun c77 => ?_)
          · refine V.ild5 aX6_applies_106 ?_
            refine V.ild4 aX6_applies_108 ?_
            refine V.ild4 aX6_applies_110 ?_
            refine V.ald1 aX6_applies_112 ?_
            refine V.ild2 aX6_applies_113 ?_
            refine V.iconst aX6_applies_114 (by decide) ?_
            refine V.iadd aX6_applies_115 (by omega) ?_
            refine V.iald aX6_applies_116 ha1 (by omega) (by omega) ?_
            refine V.iadd aX6_applies_117 (by omega) ?_
            refine V.iconst aX6_applies_118 (by decide) ?_
            refine V.isub aX6_applies_119 (by omega) ?_
            refine call_X6_in aX6_applies_120 gl_RX6_35 (ok_in) (Nat.le_of_ble_eq_true rfl) (by decide) (goI ?_)
            refine V.ifb_eq aX6_applies_123 (tgt := 181) (by decide) (fun c123 => ?_) (fun c123 => ?_)
            · refine V.inc5 aX6_applies_181 (by omega) ?_
              refine V.goto aX6_applies_184 (tgt := 46) (by decide) ?_
              refine V.mem (m2 := (MM m o s sp pa sv sh ish tx ln (foldI (appF f b cl) cl 0 (k + 1)) (cpy cl 0 bf 0 12) mk st)) ?_ (ih (k + 1) (by omega) (by omega) (by omega))
              rw [fs, appF]
              congr 1
              first | rw [if_pos c54] | (rw [if_neg c54]; first | rw [if_pos c77] | (rw [if_neg c77]; first | rw [if_neg c123] | (rw [if_pos c123]; first | rw [if_pos c134] | (rw [if_neg c134]; first | rw [if_pos c147] | rw [if_neg c147]))))
            · refine V.ald0 aX6_applies_126 ?_
              refine M.gf aX6_applies_127 fl_RX6_26 rfl ?_
              refine V.ild5 aX6_applies_130 ?_
              refine V.ild3 aX6_applies_132 ?_
              refine V.iconst aX6_applies_133 (by decide) ?_
              refine V.icmp_ne aX6_applies_134 (tgt := 145) (by decide) (fun c134 => ?_) (fun c134 => ?_)
              · refine V.ild3 aX6_applies_145 ?_
                refine V.iconst aX6_applies_146 (by decide) ?_
                refine V.icmp_ne aX6_applies_147 (tgt := 169) (by decide) (fun c147 => ?_) (fun c147 => ?_)
                · refine V.ald1 aX6_applies_169 ?_
                  refine V.ild2 aX6_applies_170 ?_
                  refine V.iconst aX6_applies_171 (by decide) ?_
                  refine V.iadd aX6_applies_172 (by omega) ?_
                  refine V.ild5 aX6_applies_173 ?_
                  refine V.iadd aX6_applies_175 (by omega) ?_
                  refine V.ild4 aX6_applies_176 ?_
                  refine V.isub aX6_applies_178 (by omega) ?_
                  refine V.iald aX6_applies_179 ha1 (by omega) (by omega) ?_
                  refine M.stcl aX6_applies_180 (by omega) ?_
                  refine V.inc5 aX6_applies_181 (by omega) ?_
                  refine V.goto aX6_applies_184 (tgt := 46) (by decide) ?_
                  refine V.mem (m2 := (MM m o s sp pa sv sh ish tx ln (foldI (appF f b cl) cl 0 (k + 1)) (cpy cl 0 bf 0 12) mk st)) ?_ (ih (k + 1) (by omega) (by omega) (by omega))
                  rw [fs, appF]
                  congr 1
                  first | rw [if_pos c54] | (rw [if_neg c54]; first | rw [if_pos c77] | (rw [if_neg c77]; first | rw [if_neg c123] | (rw [if_pos c123]; first | rw [if_pos c134] | (rw [if_neg c134]; first | rw [if_pos c147] | rw [if_neg c147]))))
                · have q8 := g8 c147
                  have q9 := g5 c77 0 (by decide) (by decide)
                  rw [Int.add_zero] at q9
                  refine V.ald0 aX6_applies_150 ?_
                  refine M.gf aX6_applies_151 fl_RX6_29 rfl ?_
                  refine V.ild5 aX6_applies_154 ?_
                  refine M.ldbf aX6_applies_156 (by omega) ?_
                  rw [eb]
                  refine V.ald1 aX6_applies_157 ?_
                  refine V.ild2 aX6_applies_158 ?_
                  refine V.iconst aX6_applies_159 (by decide) ?_
                  refine V.iadd aX6_applies_160 (by omega) ?_
                  refine V.iald aX6_applies_161 ha1 (by omega) (by omega) ?_
                  refine V.iadd aX6_applies_162 (by omega) ?_
                  refine V.bipush aX6_applies_163 (by decide) (by decide) ?_
                  refine V.irem aX6_applies_165 (by omega) (by omega) ?_
                  refine V.goto aX6_applies_166 (tgt := 180) (by decide) ?_
                  refine M.stcl aX6_applies_180 (by omega) ?_
                  refine V.inc5 aX6_applies_181 (by omega) ?_
                  refine V.goto aX6_applies_184 (tgt := 46) (by decide) ?_
                  refine V.mem (m2 := (MM m o s sp pa sv sh ish tx ln (foldI (appF f b cl) cl 0 (k + 1)) (cpy cl 0 bf 0 12) mk st)) ?_ (ih (k + 1) (by omega) (by omega) (by omega))
                  rw [fs, appF]
                  congr 1
                  first | rw [if_pos c54] | (rw [if_neg c54]; first | rw [if_pos c77] | (rw [if_neg c77]; first | rw [if_neg c123] | (rw [if_pos c123]; first | rw [if_pos c134] | (rw [if_neg c134]; first | rw [if_pos c147] | rw [if_neg c147]))))
              · refine V.ald1 aX6_applies_137 ?_
                refine V.ild2 aX6_applies_138 ?_
                refine V.iconst aX6_applies_139 (by decide) ?_
                refine V.iadd aX6_applies_140 (by omega) ?_
                refine V.iald aX6_applies_141 ha1 (by omega) (by omega) ?_
                refine V.goto aX6_applies_142 (tgt := 180) (by decide) ?_
                refine M.stcl aX6_applies_180 (by omega) ?_
                refine V.inc5 aX6_applies_181 (by omega) ?_
                refine V.goto aX6_applies_184 (tgt := 46) (by decide) ?_
                refine V.mem (m2 := (MM m o s sp pa sv sh ish tx ln (foldI (appF f b cl) cl 0 (k + 1)) (cpy cl 0 bf 0 12) mk st)) ?_ (ih (k + 1) (by omega) (by omega) (by omega))
                rw [fs, appF]
                congr 1
                first | rw [if_pos c54] | (rw [if_neg c54]; first | rw [if_pos c77] | (rw [if_neg c77]; first | rw [if_neg c123] | (rw [if_pos c123]; first | rw [if_pos c134] | (rw [if_neg c134]; first | rw [if_pos c147] | rw [if_neg c147]))))
          · have q6 := g6 c77
            refine V.ald0 aX6_applies_80 ?_
            refine M.gf aX6_applies_81 fl_RX6_26 rfl ?_
            refine V.ild5 aX6_applies_84 ?_
            refine V.ald1 aX6_applies_86 ?_
            refine V.ild2 aX6_applies_87 ?_
            refine V.iconst aX6_applies_88 (by decide) ?_
            refine V.iadd aX6_applies_89 (by omega) ?_
            refine V.iald aX6_applies_90 ha1 (by omega) (by omega) ?_
            refine V.iadd aX6_applies_91 (by omega) ?_
            refine V.bipush aX6_applies_92 (by decide) (by decide) ?_
            refine V.irem aX6_applies_94 (by omega) (by omega) ?_
            have qm := Int.emod_nonneg (k + f (b + 5)) (show (12 : Int) ≠ 0 by decide)
            have qn := Int.emod_lt_of_pos (k + f (b + 5)) (show (0 : Int) < 12 by decide)
            refine V.ald0 aX6_applies_95 ?_
            refine M.gf aX6_applies_96 fl_RX6_29 rfl ?_
            refine V.ild5 aX6_applies_99 ?_
            refine M.ldbf aX6_applies_101 (by omega) ?_
            rw [eb]
            refine M.stcl aX6_applies_102 (by omega) ?_
            refine V.goto aX6_applies_103 (tgt := 181) (by decide) ?_
            refine V.inc5 aX6_applies_181 (by omega) ?_
            refine V.goto aX6_applies_184 (tgt := 46) (by decide) ?_
            refine V.mem (m2 := (MM m o s sp pa sv sh ish tx ln (foldI (appF f b cl) cl 0 (k + 1)) (cpy cl 0 bf 0 12) mk st)) ?_ (ih (k + 1) (by omega) (by omega) (by omega))
            rw [fs, appF]
            congr 1
            first | rw [if_pos c54] | (rw [if_neg c54]; first | rw [if_pos c77] | (rw [if_neg c77]; first | rw [if_neg c123] | (rw [if_pos c123]; first | rw [if_pos c134] | (rw [if_neg c134]; first | rw [if_pos c147] | rw [if_neg c147]))))
        · refine V.ald0 aX6_applies_57 ?_
          refine M.gf aX6_applies_58 fl_RX6_26 rfl ?_
          refine V.ild5 aX6_applies_61 ?_
          refine V.ald1 aX6_applies_63 ?_
          refine V.ild2 aX6_applies_64 ?_
          refine V.iconst aX6_applies_65 (by decide) ?_
          refine V.iadd aX6_applies_66 (by omega) ?_
          refine V.ild5 aX6_applies_67 ?_
          refine V.iadd aX6_applies_69 (by omega) ?_
          refine V.iald aX6_applies_70 ha1 (by omega) (by omega) ?_
          refine M.stcl aX6_applies_71 (by omega) ?_
          refine V.goto aX6_applies_72 (tgt := 181) (by decide) ?_
          refine V.inc5 aX6_applies_181 (by omega) ?_
          refine V.goto aX6_applies_184 (tgt := 46) (by decide) ?_
          refine V.mem (m2 := (MM m o s sp pa sv sh ish tx ln (foldI (appF f b cl) cl 0 (k + 1)) (cpy cl 0 bf 0 12) mk st)) ?_ (ih (k + 1) (by omega) (by omega) (by omega))
          rw [fs, appF]
          congr 1
          first | rw [if_pos c54] | (rw [if_neg c54]; first | rw [if_pos c77] | (rw [if_neg c77]; first | rw [if_neg c123] | (rw [if_pos c123]; first | rw [if_pos c134] | (rw [if_neg c134]; first | rw [if_pos c147] | rw [if_neg c147]))))
  have loop : ∀ (n : Nat) (k : Int), (12 - k).toNat < n → 0 ≤ k → k ≤ 12 → V G kX6_applies (rmM 1 0 0) (QfM G (PV sz (MM m o s sp pa sv sh ish tx ln (applyF f b cl) (cpy cl 0 bf 0 12) mk st)) 0 0) 16 [some (.inr (some o)), some (.inr (some a)), some (.inl b), some (.inl (f (b + 1))), some (.inl (f (b + 2))), some (.inl k)] [] sz (MM m o s sp pa sv sh ish tx ln cl (cpy cl 0 bf 0 k) mk st) 0 0 := by
    intro n
    induction n with
    | zero => intro k h; omega
    | succ n ih =>
      intro k hn hk1 hk2
      refine V.ild5 aX6_applies_16 ?_
      refine V.bipush aX6_applies_18 (by decide) (by decide) ?_
      refine V.icmp_ge aX6_applies_20 (tgt := 43) (by decide) (fun c20 => ?_) (fun c20 => ?_)
      · rw [show k = 12 by omega]
        refine V.iconst aX6_applies_43 (by decide) ?_
        refine V.ist5 aX6_applies_44 ?_
        exact loop2 _ 0 (Nat.lt_succ_self _) (by decide) (by decide)
      · refine V.ald0 aX6_applies_23 ?_
        refine M.gf aX6_applies_24 fl_RX6_29 rfl ?_
        refine V.ild5 aX6_applies_27 ?_
        refine V.ald0 aX6_applies_29 ?_
        refine M.gf aX6_applies_30 fl_RX6_26 rfl ?_
        refine V.ild5 aX6_applies_33 ?_
        refine M.ldcl aX6_applies_35 (by omega) ?_
        refine M.stbf aX6_applies_36 (by omega) ?_
        refine V.inc5 aX6_applies_37 (by omega) ?_
        refine V.goto aX6_applies_40 (tgt := 16) (by decide) ?_
        rw [cpy_s hk1 (by rw [Int.zero_add]) (by omega)]
        exact ih (k + 1) (by omega) (by omega) (by omega)
  refine V.ald1 aX6_applies_0 ?_
  refine V.ild2 aX6_applies_1 ?_
  refine V.iconst aX6_applies_2 (by decide) ?_
  refine V.iadd aX6_applies_3 (by omega) ?_
  refine V.iald aX6_applies_4 ha0 (by omega) (by omega) ?_
  refine V.ist3 aX6_applies_5 ?_
  refine V.ald1 aX6_applies_6 ?_
  refine V.ild2 aX6_applies_7 ?_
  refine V.iconst aX6_applies_8 (by decide) ?_
  refine V.iadd aX6_applies_9 (by omega) ?_
  refine V.iald aX6_applies_10 ha0 (by omega) (by omega) ?_
  refine V.ist4 aX6_applies_11 ?_
  refine V.iconst aX6_applies_13 (by decide) ?_
  refine V.ist5 aX6_applies_14 ?_
  refine V.mem (m2 := (MM m o s sp pa sv sh ish tx ln cl (cpy cl 0 bf 0 0) mk st)) (by rw [cpy_0 (by decide)]) ?_
  exact loop _ 0 (Nat.lt_succ_self _) (by decide) (by decide)
end

