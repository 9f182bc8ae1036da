-- the reference's methods: contracts (part one)
section
variable {G : GX} {sz : Nat} {m : Mem} {o : Nat} {s sp pa sh tx cl bf mk : Int → Int} {sv ish ln st : Int}
theorem ok_in {v l u : Int} : Ok G kX6_in 0 [.inl v, .inl l, .inl u] sz m 0 0 (PI (b2 (l ≤ v ∧ v ≤ u)) sz m) := by
  refine Ok.body [some (.inl v), some (.inl l), some (.inl u)] rfl (Nat.le_of_ble_eq_true rfl) (by decide) ?_
  refine V.ild0 aX6_in_0 ?_
  refine V.ild1 aX6_in_1 ?_
  refine V.icmp_lt aX6_in_2 (tgt := 14) (by decide) (fun c2 => ?_) (fun c2 => ?_)
  · refine V.iconst aX6_in_14 (by decide) ?_
    refine V.zret aX6_in_15 rfl (by first | decide | exact b2_01 | omega) (by decide) ?_
    exact PI.of (by first | rw [b2_t (by omega)] | rw [b2_f (by omega)])
  · refine V.ild0 aX6_in_5 ?_
    refine V.ild2 aX6_in_6 ?_
    refine V.icmp_gt aX6_in_7 (tgt := 14) (by decide) (fun c7 => ?_) (fun c7 => ?_)
    · refine V.iconst aX6_in_14 (by decide) ?_
      refine V.zret aX6_in_15 rfl (by first | decide | exact b2_01 | omega) (by decide) ?_
      exact PI.of (by first | rw [b2_t (by omega)] | rw [b2_f (by omega)])
    · refine V.iconst aX6_in_10 (by decide) ?_
      refine V.goto aX6_in_11 (tgt := 15) (by decide) ?_
      refine V.zret aX6_in_15 rfl (by first | decide | exact b2_01 | omega) (by decide) ?_
      exact PI.of (by first | rw [b2_t (by omega)] | rw [b2_f (by omega)])
theorem ok_isPage {p : Int} : Ok G kX6_isPage 1 [.inl p] sz m 0 0 (PI (b2 (0 ≤ p ∧ p ≤ 5)) sz m) := by
  refine Ok.body [some (.inl p)] rfl (Nat.le_of_ble_eq_true rfl) (by decide) ?_
  refine V.ild0 aX6_isPage_0 ?_
  refine V.iconst aX6_isPage_1 (by decide) ?_
  refine V.iconst aX6_isPage_2 (by decide) ?_
  refine call_X6_in aX6_isPage_3 gl_RX6_35 (ok_in) (Nat.le_of_ble_eq_true rfl) (by decide) (goI ?_)
  refine V.zret aX6_isPage_6 rfl (by first | decide | exact b2_01 | omega) (by decide) ?_
  exact PI.of rfl
theorem ok_isCell {p : Int} : Ok G kX6_isCell 1 [.inl p] sz m 0 0 (PI (b2 (0 ≤ p ∧ p ≤ 11)) sz m) := by
  refine Ok.body [some (.inl p)] rfl (Nat.le_of_ble_eq_true rfl) (by decide) ?_
  refine V.ild0 aX6_isCell_0 ?_
  refine V.iconst aX6_isCell_1 (by decide) ?_
  refine V.bipush aX6_isCell_2 (by decide) (by decide) ?_
  refine call_X6_in aX6_isCell_4 gl_RX6_35 (ok_in) (Nat.le_of_ble_eq_true rfl) (by decide) (goI ?_)
  refine V.zret aX6_isCell_7 rfl (by first | decide | exact b2_01 | omega) (by decide) ?_
  exact PI.of rfl
theorem ok_at {k : Int} (h0 : 0 ≤ s 2) (h1 : s 2 ≤ 30000) (h2 : -100000 ≤ k ∧ k ≤ 100000) : Ok G kX6_at 0 [.inr (some o), .inl k] sz (MM m o s sp pa sv sh ish tx ln cl bf mk st) 0 0 (PI (170 + 17 * (k - s 2)) sz (MM m o s sp pa sv sh ish tx ln cl bf mk st)) := by
  refine Ok.body [some (.inr (some o)), some (.inl k)] rfl (Nat.le_of_ble_eq_true rfl) (by decide) ?_
  refine V.sipush aX6_at_0 (by decide) (by decide) ?_
  refine V.bipush aX6_at_3 (by decide) (by decide) ?_
  refine V.ild1 aX6_at_5 ?_
  refine V.ald0 aX6_at_6 ?_
  refine M.gf aX6_at_7 fl_RX6_7 rfl ?_
  refine V.iconst aX6_at_10 (by decide) ?_
  refine M.lds aX6_at_11 (by omega) ?_
  refine V.isub aX6_at_12 (by omega) ?_
  refine V.imul aX6_at_13 (by omega) ?_
  refine V.iadd aX6_at_14 (by omega) ?_
  refine V.iret aX6_at_15 rfl (by decide) ?_
  exact PI.of rfl
theorem ok_of {k j : Int} (h0 : 0 ≤ s 2) (h1 : s 2 ≤ 30000) (h2 : s 2 ≤ k) (h3 : k < s 2 + 100) (h4 : 0 ≤ j ∧ j < 17) : Ok G kX6_of 1 [.inr (some o), .inl k, .inl j] sz (MM m o s sp pa sv sh ish tx ln cl bf mk st) 0 0 (PI (ofE (s) k j) sz (MM m o s sp pa sv sh ish tx ln cl bf mk st)) := by
  refine Ok.body [some (.inr (some o)), some (.inl k), some (.inl j)] rfl (Nat.le_of_ble_eq_true rfl) (by decide) ?_
  refine V.ald0 aX6_of_0 ?_
  refine M.gf aX6_of_1 fl_RX6_7 rfl ?_
  refine V.ald0 aX6_of_4 ?_
  refine V.ild1 aX6_of_5 ?_
  refine call_X6_at aX6_of_6 gl_RX6_55 (ok_at (by omega) (by omega) (by omega)) (MM_o) (Nat.le_of_ble_eq_true rfl) (by decide) (goI ?_)
  refine V.ild2 aX6_of_9 ?_
  refine V.iadd aX6_of_10 (by omega) ?_
  refine M.lds aX6_of_11 (by omega) ?_
  refine V.iret aX6_of_12 rfl (by decide) ?_
  exact PI.of rfl
theorem ok_isHeld {k : Int} (h0 : 0 ≤ s 2) (h1 : s 3 ≤ 30000) (h2 : s 2 ≤ s 3) : Ok G kX6_isHeld 1 [.inr (some o), .inl k] sz (MM m o s sp pa sv sh ish tx ln cl bf mk st) 0 0 (PI (b2 (s 2 ≤ k ∧ k ≤ s 3 - 1)) sz (MM m o s sp pa sv sh ish tx ln cl bf mk st)) := by
  refine Ok.body [some (.inr (some o)), some (.inl k)] rfl (Nat.le_of_ble_eq_true rfl) (by decide) ?_
  refine V.ild1 aX6_isHeld_0 ?_
  refine V.ald0 aX6_isHeld_1 ?_
  refine M.gf aX6_isHeld_2 fl_RX6_7 rfl ?_
  refine V.iconst aX6_isHeld_5 (by decide) ?_
  refine M.lds aX6_isHeld_6 (by omega) ?_
  refine V.ald0 aX6_isHeld_7 ?_
  refine M.gf aX6_isHeld_8 fl_RX6_7 rfl ?_
  refine V.iconst aX6_isHeld_11 (by decide) ?_
  refine M.lds aX6_isHeld_12 (by omega) ?_
  refine V.iconst aX6_isHeld_13 (by decide) ?_
  refine V.isub aX6_isHeld_14 (by omega) ?_
  refine call_X6_in aX6_isHeld_15 gl_RX6_35 (ok_in) (Nat.le_of_ble_eq_true rfl) (by decide) (goI ?_)
  refine V.zret aX6_isHeld_18 rfl (by first | decide | exact b2_01 | omega) (by decide) ?_
  exact PI.of rfl
theorem ok_pictured {a nn : Nat} {f : Int → Int} {b : Int} (ha : m a = iar nn f) (h0 : 0 ≤ b) (h1 : b + 12 ≤ nn) (h2 : b ≤ 200000) : Ok G kX6_pictured 0 [.inr (some a), .inl b] sz m 0 0 (PI (pict f b) sz m) := by
  refine Ok.body [some (.inr (some a)), some (.inl b), none, none] rfl (Nat.le_of_ble_eq_true rfl) (by decide) ?_
  have loop : ∀ (n : Nat) (k r : Int), (12 - k).toNat < n → 1 ≤ k → k ≤ 12 → r = foldI (pictF f b) 1 1 k → V G kX6_pictured (rmM 0 0 0) (QfM G (PI (pict f b) sz m) 0 0) 4 [some (.inr (some a)), some (.inl b), some (.inl r), some (.inl k)] [] sz m 0 0 := by
    intro n
    induction n with
    | zero => intro k r h; omega
    | succ n ih =>
      intro k r hn hk1 hk2 hr
      have hb := pictR_b (f := f) (a := b) (k := k) hk1
      refine V.ild3 aX6_pictured_4 ?_
      refine V.bipush aX6_pictured_5 (by decide) (by decide) ?_
      refine V.icmp_ge aX6_pictured_7 (tgt := 39) (by decide) (fun c7 => ?_) (fun c7 => ?_)
      · refine V.iconst aX6_pictured_39 (by decide) ?_
        refine V.iconst aX6_pictured_40 (by decide) ?_
        refine V.ild2 aX6_pictured_41 ?_
        refine V.imul aX6_pictured_42 (by omega) ?_
        refine V.bipush aX6_pictured_43 (by decide) (by decide) ?_
        refine V.icmp_ge aX6_pictured_45 (tgt := 54) (by decide) (fun c45 => ?_) (fun c45 => ?_)
        · refine V.bipush aX6_pictured_54 (by decide) (by decide) ?_
          refine V.iadd aX6_pictured_56 (by omega) ?_
          refine V.iret aX6_pictured_57 rfl (by decide) ?_
          have hk : k = 12 := by omega
          subst hk
          subst hr
          exact PI.of (by unfold pict pictR; first | rw [if_pos (by omega)] | rw [if_neg (by omega)])
        · refine V.iconst aX6_pictured_48 (by decide) ?_
          refine V.ild2 aX6_pictured_49 ?_
          refine V.imul aX6_pictured_50 (by omega) ?_
          refine V.goto aX6_pictured_51 (tgt := 56) (by decide) ?_
          refine V.iadd aX6_pictured_56 (by omega) ?_
          refine V.iret aX6_pictured_57 rfl (by decide) ?_
          have hk : k = 12 := by omega
          subst hk
          subst hr
          exact PI.of (by unfold pict pictR; first | rw [if_pos (by omega)] | rw [if_neg (by omega)])
      · refine V.ild2 aX6_pictured_10 ?_
        refine V.ald0 aX6_pictured_11 ?_
        refine V.ild1 aX6_pictured_12 ?_
        refine V.ild3 aX6_pictured_13 ?_
        refine V.iadd aX6_pictured_14 (by omega) ?_
        refine V.iald aX6_pictured_15 ha (by omega) (by omega) ?_
        refine V.ald0 aX6_pictured_16 ?_
        refine V.ild1 aX6_pictured_17 ?_
        refine V.ild3 aX6_pictured_18 ?_
        refine V.iadd aX6_pictured_19 (by omega) ?_
        refine V.iconst aX6_pictured_20 (by decide) ?_
        refine V.isub aX6_pictured_21 (by omega) ?_
        refine V.iald aX6_pictured_22 ha (by omega) (by omega) ?_
        refine V.icmp_ne aX6_pictured_23 (tgt := 30) (by decide) (fun c23 => ?_) (fun c23 => ?_)
        · refine V.iconst aX6_pictured_30 (by decide) ?_
          refine V.iadd aX6_pictured_31 (by omega) ?_
          refine V.ist2 aX6_pictured_32 ?_
          refine V.inc3 aX6_pictured_33 (by omega) ?_
          refine V.goto aX6_pictured_36 (tgt := 4) (by decide) ?_
          exact ih (k + 1) _ (by omega) (by omega) (by omega) (by rw [foldI_s (by omega), ← hr]; simp_all [pictF])
        · refine V.iconst aX6_pictured_26 (by decide) ?_
          refine V.goto aX6_pictured_27 (tgt := 31) (by decide) ?_
          refine V.iadd aX6_pictured_31 (by omega) ?_
          refine V.ist2 aX6_pictured_32 ?_
          refine V.inc3 aX6_pictured_33 (by omega) ?_
          refine V.goto aX6_pictured_36 (tgt := 4) (by decide) ?_
          exact ih (k + 1) _ (by omega) (by omega) (by omega) (by rw [foldI_s (by omega), ← hr]; simp_all [pictF])
  refine V.iconst aX6_pictured_0 (by decide) ?_
  refine V.ist2 aX6_pictured_1 ?_
  refine V.iconst aX6_pictured_2 (by decide) ?_
  refine V.ist3 aX6_pictured_3 ?_
  exact loop _ 1 1 (Nat.lt_succ_self _) (by decide) (by decide) (foldI_0 (by decide)).symm
theorem ok_sizeAt {a nn : Nat} {f : Int → Int} {b : Int} (ha : m a = iar nn f) (h0 : 0 ≤ b) (h1 : b + 17 ≤ nn) (h2 : b ≤ 100000) (h3 : f (b + 3) ≤ 100) (h4 : -100 ≤ f (b + 3)) : Ok G kX6_sizeAt 1 [.inr (some a), .inl b] sz m 0 0 (PI (sizeA f b) sz m) := by
  refine Ok.body [some (.inr (some a)), some (.inl b)] rfl (Nat.le_of_ble_eq_true rfl) (by decide) ?_
  refine V.ald0 aX6_sizeAt_0 ?_
  refine V.ild1 aX6_sizeAt_1 ?_
  refine V.iconst aX6_sizeAt_2 (by decide) ?_
  refine V.iadd aX6_sizeAt_3 (by omega) ?_
  refine V.iald aX6_sizeAt_4 ha (by omega) (by omega) ?_
  refine V.tsw4 aX6_sizeAt_5 (t0 := 36) (t1 := 44) (t2 := 44) (t3 := 46) (t4 := 48) (by decide) (by decide) (by decide) (by decide) (by decide) (fun c5 => ?_) (fun c5 => ?_) (fun c5 => ?_) (fun c5 => ?_) (fun c5 => ?_)
  · refine V.ald0 aX6_sizeAt_36 ?_
    refine V.ild1 aX6_sizeAt_37 ?_
    refine V.iconst aX6_sizeAt_38 (by decide) ?_
    refine V.iadd aX6_sizeAt_39 (by omega) ?_
    refine call_X6_pictured aX6_sizeAt_40 gl_RX6_59 (ok_pictured ha (by omega) (by omega) (by omega)) (Nat.le_of_ble_eq_true rfl) (by decide) (goI ?_)
    refine V.iret aX6_sizeAt_43 rfl (by decide) ?_
    exact PI.of (by unfold sizeA; first | (simp [c5]; done) | rw [if_neg (by omega), if_neg (by omega), if_neg (by omega)])
  · refine V.iconst aX6_sizeAt_44 (by decide) ?_
    refine V.iret aX6_sizeAt_45 rfl (by decide) ?_
    exact PI.of (by unfold sizeA; first | (simp [c5]; done) | rw [if_neg (by omega), if_neg (by omega), if_neg (by omega)])
  · refine V.iconst aX6_sizeAt_44 (by decide) ?_
    refine V.iret aX6_sizeAt_45 rfl (by decide) ?_
    exact PI.of (by unfold sizeA; first | (simp [c5]; done) | rw [if_neg (by omega), if_neg (by omega), if_neg (by omega)])
  · refine V.iconst aX6_sizeAt_46 (by decide) ?_
    refine V.iret aX6_sizeAt_47 rfl (by decide) ?_
    exact PI.of (by unfold sizeA; first | (simp [c5]; done) | rw [if_neg (by omega), if_neg (by omega), if_neg (by omega)])
  · refine V.iconst aX6_sizeAt_48 (by decide) ?_
    refine V.ald0 aX6_sizeAt_49 ?_
    refine V.ild1 aX6_sizeAt_50 ?_
    refine V.iconst aX6_sizeAt_51 (by decide) ?_
    refine V.iadd aX6_sizeAt_52 (by omega) ?_
    refine V.iald aX6_sizeAt_53 ha (by omega) (by omega) ?_
    refine V.iadd aX6_sizeAt_54 (by omega) ?_
    refine V.iret aX6_sizeAt_55 rfl (by decide) ?_
    exact PI.of (by unfold sizeA; first | (simp [c5]; done) | rw [if_neg (by omega), if_neg (by omega), if_neg (by omega)])
theorem ok_timeAt {a nn : Nat} {f : Int → Int} {b : Int} (ha : m a = iar nn f) (h0 : 0 ≤ b) (h1 : b + 17 ≤ nn) (h2 : b ≤ 100000) (h3 : entOK f b) : Ok G kX6_timeAt 2 [.inr (some a), .inl b] sz m 0 0 (PI (timeA f b) sz m) := by
  refine Ok.body [some (.inr (some a)), some (.inl b), none] rfl (Nat.le_of_ble_eq_true rfl) (by decide) ?_
  have hs := sizeA_b h3
  obtain ⟨-, g1, g2, -⟩ := id h3
  refine V.ald0 aX6_timeAt_0 ?_
  refine V.ild1 aX6_timeAt_1 ?_
  refine V.iconst aX6_timeAt_2 (by decide) ?_
  refine V.iadd aX6_timeAt_3 (by omega) ?_
  refine V.iald aX6_timeAt_4 ha (by omega) (by omega) ?_
  refine V.ist2 aX6_timeAt_5 ?_
  refine V.ald0 aX6_timeAt_6 ?_
  refine V.ild1 aX6_timeAt_7 ?_
  refine call_X6_sizeAt aX6_timeAt_8 gl_RX6_63 (ok_sizeAt ha (by omega) (by omega) (by omega) (by omega) (by omega)) (Nat.le_of_ble_eq_true rfl) (by decide) (goI ?_)
  refine V.ild2 aX6_timeAt_11 ?_
  refine V.if_ne aX6_timeAt_12 (tgt := 19) (by decide) (fun c12 => ?_) (fun c12 => ?_)
  · refine V.ild2 aX6_timeAt_19 ?_
    refine V.iconst aX6_timeAt_20 (by decide) ?_
    refine V.icmp_ne aX6_timeAt_21 (tgt := 29) (by decide) (fun c21 => ?_) (fun c21 => ?_)
    · refine V.ald0 aX6_timeAt_29 ?_
      refine V.ild1 aX6_timeAt_30 ?_
      refine V.iconst aX6_timeAt_31 (by decide) ?_
      refine V.iadd aX6_timeAt_32 (by omega) ?_
      refine V.iald aX6_timeAt_33 ha (by omega) (by omega) ?_
      refine V.iadd aX6_timeAt_34 (by omega) ?_
      refine V.iret aX6_timeAt_35 rfl (by decide) ?_
      exact PI.of (by unfold timeA; simp_all)
    · refine V.bipush aX6_timeAt_24 (by decide) (by decide) ?_
      refine V.goto aX6_timeAt_26 (tgt := 34) (by decide) ?_
      refine V.iadd aX6_timeAt_34 (by omega) ?_
      refine V.iret aX6_timeAt_35 rfl (by decide) ?_
      exact PI.of (by unfold timeA; simp_all)
  · refine V.iconst aX6_timeAt_15 (by decide) ?_
    refine V.goto aX6_timeAt_16 (tgt := 34) (by decide) ?_
    refine V.iadd aX6_timeAt_34 (by omega) ?_
    refine V.iret aX6_timeAt_35 rfl (by decide) ?_
    exact PI.of (by unfold timeA; simp_all)
theorem ok_lays {fa ta n1 n2 : Nat} {f g : Int → Int} {a b : Int} (hf : m fa = iar n1 f) (hg : m ta = iar n2 g) (hne : fa ≠ ta) (h0 : 0 ≤ a ∧ a + 1870 ≤ n1 ∧ a ≤ 100000) (h1 : 0 ≤ b ∧ b + 1870 ≤ n2 ∧ b ≤ 100000) : Ok G kX6_lays 0 [.inr (some fa), .inl a, .inr (some ta), .inl b] sz m 0 0 (PV sz (upM m ta (iar n2 (cpy f a g b 1870)))) := by
  refine Ok.body [some (.inr (some fa)), some (.inl a), some (.inr (some ta)), some (.inl b), none] rfl (Nat.le_of_ble_eq_true rfl) (by decide) ?_
  have loop : ∀ (n : Nat) (k : Int) (m' : Mem), (1870 - k).toNat < n → 0 ≤ k → k ≤ 1870 → m' = upM m ta (iar n2 (cpy f a g b k)) → V G kX6_lays (rmM 0 0 0) (QfM G (PV sz (upM m ta (iar n2 (cpy f a g b 1870)))) 0 0) 3 [some (.inr (some fa)), some (.inl a), some (.inr (some ta)), some (.inl b), some (.inl k)] [] sz m' 0 0 := by
    intro n
    induction n with
    | zero => intro k r h; omega
    | succ n ih =>
      intro k m' hn hk1 hk2 hm
      have hf' : m' fa = iar n1 f := by rw [hm, upM_n hne]; exact hf
      have hg' : m' ta = iar n2 (cpy f a g b k) := by rw [hm, upM_s]
      refine V.ild4 aX6_lays_3 ?_
      refine V.sipush aX6_lays_5 (by decide) (by decide) ?_
      refine V.icmp_ge aX6_lays_8 (tgt := 29) (by decide) (fun c8 => ?_) (fun c8 => ?_)
      · refine V.ret aX6_lays_29 rfl (by decide) ?_
        exact PV.of (by rw [hm, show k = 1870 by omega])
      · refine V.ald2 aX6_lays_11 ?_
        refine V.ild3 aX6_lays_12 ?_
        refine V.ild4 aX6_lays_13 ?_
        refine V.iadd aX6_lays_15 (by omega) ?_
        refine V.ald0 aX6_lays_16 ?_
        refine V.ild1 aX6_lays_17 ?_
        refine V.ild4 aX6_lays_18 ?_
        refine V.iadd aX6_lays_20 (by omega) ?_
        refine V.iald aX6_lays_21 hf' (by omega) (by omega) ?_
        refine V.iast aX6_lays_22 hg' (by omega) (by omega) ?_
        refine V.inc4 aX6_lays_23 (by omega) ?_
        refine V.goto aX6_lays_26 (tgt := 3) (by decide) ?_
        exact ih (k + 1) _ (by omega) (by omega) (by omega) (by rw [cpy_s hk1 rfl rfl, hm]; funext q; unfold upM; split <;> rfl)
  refine V.iconst aX6_lays_0 (by decide) ?_
  refine V.ist4 aX6_lays_1 ?_
  exact loop _ 0 m (Nat.lt_succ_self _) (by decide) (by decide) (by rw [cpy_0 (by decide)]; funext q; unfold upM; split <;> simp_all)
theorem ok_holds {part p : Int} (h0 : part = 8 ∨ part = 80) (h1 : 0 ≤ p ∧ p < 6) : Ok G kX6_holds 0 [.inr (some o), .inl part, .inl p] sz (MM m o s sp pa sv sh ish tx ln cl bf mk st) 0 0 (PV sz (MM m o s sp pa sv sh ish tx ln (cpy s (part + 12 * p) cl 0 12) bf mk st)) := by
  refine Ok.body [some (.inr (some o)), some (.inl part), some (.inl p), none] rfl (Nat.le_of_ble_eq_true rfl) (by decide) ?_
  have loop : ∀ (n : Nat) (k : Int), (12 - k).toNat < n → 0 ≤ k → k ≤ 12 → V G kX6_holds (rmM 0 0 0) (QfM G (PV sz (MM m o s sp pa sv sh ish tx ln (cpy s (part + 12 * p) cl 0 12) bf mk st)) 0 0) 2 [some (.inr (some o)), some (.inl part), some (.inl p), some (.inl k)] [] sz (MM m o s sp pa sv sh ish tx ln (cpy s (part + 12 * p) cl 0 k) bf mk st) 0 0 := by
    intro n
    induction n with
    | zero => intro k h; omega
    | succ n ih =>
      intro k hn hk1 hk2
      refine V.ild3 aX6_holds_2 ?_
      refine V.bipush aX6_holds_3 (by decide) (by decide) ?_
      refine V.icmp_ge aX6_holds_5 (tgt := 33) (by decide) (fun c5 => ?_) (fun c5 => ?_)
      · refine V.ret aX6_holds_33 rfl (by decide) ?_
        exact PV.of (by rw [show k = 12 by omega])
      · refine V.ald0 aX6_holds_8 ?_
        refine M.gf aX6_holds_9 fl_RX6_26 rfl ?_
        refine V.ild3 aX6_holds_12 ?_
        refine V.ald0 aX6_holds_13 ?_
        refine M.gf aX6_holds_14 fl_RX6_7 rfl ?_
        refine V.ild1 aX6_holds_17 ?_
        refine V.bipush aX6_holds_18 (by decide) (by decide) ?_
        refine V.ild2 aX6_holds_20 ?_
        refine V.imul aX6_holds_21 (by omega) ?_
        refine V.iadd aX6_holds_22 (by omega) ?_
        refine V.ild3 aX6_holds_23 ?_
        refine V.iadd aX6_holds_24 (by omega) ?_
        refine M.lds aX6_holds_25 (by omega) ?_
        refine M.stcl aX6_holds_26 (by omega) ?_
        refine V.inc3 aX6_holds_27 (by omega) ?_
        refine V.goto aX6_holds_30 (tgt := 2) (by decide) ?_
        rw [cpy_s hk1 rfl (by omega)]
        exact ih (k + 1) (by omega) (by omega) (by omega)
  refine V.iconst aX6_holds_0 (by decide) ?_
  refine V.ist3 aX6_holds_1 ?_
  refine V.mem (m2 := (MM m o s sp pa sv sh ish tx ln (cpy s (part + 12 * p) cl 0 0) bf mk st)) (by rw [cpy_0 (by decide)]) ?_
  exact loop _ 0 (Nat.lt_succ_self _) (by decide) (by decide)
end

