-- the reference's methods: contracts (part two): reading the log
theorem foldI_indB {α : Type} {f : α → Int → α} {z : α} {a e : Int} (P : Int → α → Prop) (h0 : P a z) (hs : ∀ k x, a ≤ k → k < e → P k x → P (k + 1) (f x k)) : ∀ b, a ≤ b → b ≤ e → P b (foldI f z a b) := by
  intro b hb
  obtain ⟨n, hn⟩ : ∃ n : Nat, b = a + n := ⟨(b - a).toNat, by omega⟩
  subst hn
  clear hb
  induction n with
  | zero => intro _; rw [foldI_0 (by omega)]; simpa using h0
  | succ n ih =>
    intro hb
    have e : a + ((n + 1 : Nat) : Int) = (a + n) + 1 := by omega
    rw [e, foldI_s (by omega)]
    exact hs _ _ (by omega) (by omega) (ih (by omega))
def Num (s : Int → Int) : Prop := 0 ≤ s 2 ∧ s 2 ≤ s 4 ∧ s 4 ≤ s 3 ∧ s 3 ≤ 30000 ∧ s 3 - s 2 ≤ 100
def EntS (s : Int → Int) : Prop := ∀ k, s 2 ≤ k → k < s 3 → entOK s (atE s k)
theorem Inv.N {B : Int} {s : Int → Int} (h : Inv B s) : Num s := by
  have := h.num
  unfold Num
  omega
theorem Inv.E {B : Int} {s : Int → Int} (h : Inv B s) : EntS s := fun _ h1 h2 => h.ent h1 h2
theorem EntS.p {s : Int → Int} (h : EntS s) {k : Int} (h1 : s 2 ≤ k) (h2 : k < s 3) : 0 ≤ ofE s k 0 ∧ ofE s k 0 < 6 := by
  have := (h k h1 h2).1
  show 0 ≤ s (atE s k + 0) ∧ s (atE s k + 0) < 6
  rw [Int.add_zero]
  exact this
theorem EntS.sz {s : Int → Int} (h : EntS s) {k : Int} (h1 : s 2 ≤ k) (h2 : k < s 3) : 3 ≤ sizeA s (170 + 17 * (k - s 2)) ∧ sizeA s (170 + 17 * (k - s 2)) ≤ 15 := sizeA_b (h k h1 h2)
theorem EntS.tm {s : Int → Int} (h : EntS s) {k : Int} (h1 : s 2 ≤ k) (h2 : k < s 3) : 3 ≤ timeA s (170 + 17 * (k - s 2)) ∧ timeA s (170 + 17 * (k - s 2)) ≤ 27 := timeA_b (h k h1 h2)
theorem EntS.m3 {s : Int → Int} (h : EntS s) {k : Int} (h1 : s 2 ≤ k) (h2 : k < s 3) : 1 ≤ s (170 + 17 * (k - s 2) + 3) ∧ s (170 + 17 * (k - s 2) + 3) ≤ 12 := by
  have h3 := (h k h1 h2).2.2.1
  have : s (atE s k + 3) = s (170 + 17 * (k - s 2) + 3) := rfl
  omega
theorem used_b {s : Int → Int} (h : EntS s) {k : Int} (h1 : s 2 ≤ k) (h2 : k ≤ s 3) : 0 ≤ foldI (fun sum k => sum + sizeA s (atE s k)) 0 (s 2) k ∧ foldI (fun sum k => sum + sizeA s (atE s k)) 0 (s 2) k ≤ 15 * (k - s 2) :=
  foldI_indB (fun k x => 0 ≤ x ∧ x ≤ 15 * (k - s 2)) (by omega) (fun k x g1 g2 g3 => by have := h.sz g1 g2; dsimp only [atE]; omega) k h1 h2
theorem used_b2 {s : Int → Int} (h : EntS s) (hN : Num s) : 0 ≤ used s ∧ used s ≤ 1500 := by
  obtain ⟨n0, n1, n2, n3, n4⟩ := hN
  have := used_b h (k := s 3) (by omega) (by omega)
  unfold used
  omega
theorem drp_b {s : Int → Int} {most : Int} : ∀ (f : Nat) (n left : Int), n ≤ drpF s most f n left ∧ (s 2 + n ≤ s 4 → s 2 + drpF s most f n left ≤ s 4)
  | 0, n, left => ⟨Int.le_refl _, fun h => h⟩
  | f + 1, n, left => by
    have ih := drp_b (s := s) (most := most) f (n + 1) (left - sizeA s (atE s (s 2 + n)))
    unfold drpF
    split
    · rename_i h
      exact ⟨by omega, fun _ => ih.2 (by omega)⟩
    · exact ⟨Int.le_refl _, fun h => h⟩
theorem droppable_b {s : Int → Int} {most : Int} (hN : Num s) : 0 ≤ droppable s most ∧ s 2 + droppable s most ≤ s 4 := by
  obtain ⟨n0, n1, n2, n3, n4⟩ := hN
  have h := drp_b (s := s) (most := most) ((s 4 - s 2).toNat + 1) 0 (used s)
  exact ⟨h.1, h.2 (by omega)⟩
section
variable {G : GX} {sz : Nat} {m : Mem} {o : Nat} {s sp pa sh tx cl bf mk : Int → Int} {sv ish ln st : Int}
theorem ok_start {p e : Int} (hN : Num s) (hp : 0 ≤ p ∧ p < 6) (h1 : s 2 ≤ e) (h2 : e ≤ s 3) : Ok G kX6_start 2 [.inr (some o), .inl p, .inl e] sz (MM m o s sp pa sv sh ish tx ln cl bf mk st) 0 0 (PI (start s p e) sz (MM m o s sp pa sv sh ish tx ln cl bf mk st)) := by
  refine Ok.body [some (.inr (some o)), some (.inl p), some (.inl e), none, none] rfl (Nat.le_of_ble_eq_true rfl) (by decide) ?_
  obtain ⟨n0, n1, n2, n3, n4⟩ := id hN
  have loop : ∀ (n : Nat) (k r : Int), (e - k).toNat < n → s 2 ≤ k → k ≤ e → r = foldI (startF s p) (-5) (s 2) k → V G kX6_start (rmM 2 0 0) (QfM G (PI (start s p e) sz (MM m o s sp pa sv sh ish tx ln cl bf mk st)) 0 0) 11 [some (.inr (some o)), some (.inl p), some (.inl e), some (.inl r), some (.inl k)] [] sz (MM m o s sp pa sv sh ish tx ln cl bf mk st) 0 0 := by
    intro n
    induction n with
    | zero => intro k r h; omega
    | succ n ih =>
      intro k r hn hk1 hk2 hr
      refine V.ild4 aX6_start_11 ?_
      refine V.ild2 aX6_start_13 ?_
      refine V.icmp_ge aX6_start_14 (tgt := 66) (by decide) (fun c14 => ?_) (fun c14 => ?_)
      · refine V.ild3 aX6_start_66 ?_
        refine V.iret aX6_start_67 rfl (by decide) ?_
        exact PI.of (by rw [hr, show k = e by omega]; rfl)
      · refine V.ald0 aX6_start_17 ?_
        refine V.ild4 aX6_start_18 ?_
        refine V.iconst aX6_start_20 (by decide) ?_
        refine call_X6_of aX6_start_21 gl_RX6_66 (ok_of (by omega) (by omega) (by omega) (by omega) (by omega)) (MM_o) (Nat.le_of_ble_eq_true rfl) (by decide) (goI ?_)
        refine V.ild1 aX6_start_24 ?_
        refine V.icmp_ne aX6_start_25 (tgt := 58) (by decide) (fun c25 => ?_) (fun c25 => ?_)
        · refine V.ild3 aX6_start_58 ?_
          refine V.ist3 aX6_start_59 ?_
          refine V.inc4 aX6_start_60 (by omega) ?_
          refine V.goto aX6_start_63 (tgt := 11) (by decide) ?_
          refine ih (k + 1) _ (by omega) (by omega) (by omega) ?_
          rw [foldI_s (by omega), ← hr, startF]
          split <;> omega
        · refine V.ald0 aX6_start_28 ?_
          refine V.ild4 aX6_start_29 ?_
          refine V.iconst aX6_start_31 (by decide) ?_
          refine call_X6_of aX6_start_32 gl_RX6_66 (ok_of (by omega) (by omega) (by omega) (by omega) (by omega)) (MM_o) (Nat.le_of_ble_eq_true rfl) (by decide) (goI ?_)
          refine V.if_ne aX6_start_35 (tgt := 58) (by decide) (fun c35 => ?_) (fun c35 => ?_)
          · refine V.ild3 aX6_start_58 ?_
            refine V.ist3 aX6_start_59 ?_
            refine V.inc4 aX6_start_60 (by omega) ?_
            refine V.goto aX6_start_63 (tgt := 11) (by decide) ?_
            refine ih (k + 1) _ (by omega) (by omega) (by omega) ?_
            rw [foldI_s (by omega), ← hr, startF]
            split <;> omega
          · refine V.ild4 aX6_start_38 ?_
            refine V.ald0 aX6_start_40 ?_
            refine M.gf aX6_start_41 fl_RX6_7 rfl ?_
            refine V.sipush aX6_start_44 (by decide) (by decide) ?_
            refine V.ild1 aX6_start_47 ?_
            refine V.iadd aX6_start_48 (by omega) ?_
            refine M.lds aX6_start_49 (by omega) ?_
            refine V.icmp_lt aX6_start_50 (tgt := 58) (by decide) (fun c50 => ?_) (fun c50 => ?_)
            · refine V.ild3 aX6_start_58 ?_
              refine V.ist3 aX6_start_59 ?_
              refine V.inc4 aX6_start_60 (by omega) ?_
              refine V.goto aX6_start_63 (tgt := 11) (by decide) ?_
              refine ih (k + 1) _ (by omega) (by omega) (by omega) ?_
              rw [foldI_s (by omega), ← hr, startF]
              split <;> omega
            · refine V.ild4 aX6_start_53 ?_
              refine V.goto aX6_start_55 (tgt := 59) (by decide) ?_
              refine V.ist3 aX6_start_59 ?_
              refine V.inc4 aX6_start_60 (by omega) ?_
              refine V.goto aX6_start_63 (tgt := 11) (by decide) ?_
              refine ih (k + 1) _ (by omega) (by omega) (by omega) ?_
              rw [foldI_s (by omega), ← hr, startF]
              split <;> omega
  refine V.bipush aX6_start_0 (by decide) (by decide) ?_
  refine V.ist3 aX6_start_2 ?_
  refine V.ald0 aX6_start_3 ?_
  refine M.gf aX6_start_4 fl_RX6_7 rfl ?_
  refine V.iconst aX6_start_7 (by decide) ?_
  refine M.lds aX6_start_8 (by omega) ?_
  refine V.ist4 aX6_start_9 ?_
  exact loop _ _ _ (Nat.lt_succ_self _) (Int.le_refl _) h1 (foldI_0 (Int.le_refl _)).symm
theorem ok_needs {p k e : Int} (hN : Num s) (hp : 0 ≤ p ∧ p < 6) (h0 : s 2 ≤ k) (h1 : s 2 ≤ e) (h2 : e ≤ s 3) : Ok G kX6_needs 3 [.inr (some o), .inl p, .inl k, .inl e] sz (MM m o s sp pa sv sh ish tx ln cl bf mk st) 0 0 (PI (b2 (needsP s p k e)) sz (MM m o s sp pa sv sh ish tx ln cl bf mk st)) := by
  refine Ok.body [some (.inr (some o)), some (.inl p), some (.inl k), some (.inl e)] rfl (Nat.le_of_ble_eq_true rfl) (by decide) ?_
  obtain ⟨n0, n1, n2, n3, n4⟩ := id hN
  refine V.ild2 aX6_needs_0 ?_
  refine V.ild3 aX6_needs_1 ?_
  refine V.icmp_ge aX6_needs_2 (tgt := 43) (by decide) (fun c2 => ?_) (fun c2 => ?_)
  · refine V.iconst aX6_needs_43 (by decide) ?_
    refine V.zret aX6_needs_44 rfl (by first | decide | exact b2_01 | omega) (by decide) ?_
    exact PI.of (by unfold b2; split <;> omega)
  · refine V.ald0 aX6_needs_5 ?_
    refine V.ild2 aX6_needs_6 ?_
    refine V.iconst aX6_needs_7 (by decide) ?_
    refine call_X6_of aX6_needs_8 gl_RX6_66 (ok_of (by omega) (by omega) (by omega) (by omega) (by omega)) (MM_o) (Nat.le_of_ble_eq_true rfl) (by decide) (goI ?_)
    refine V.ild1 aX6_needs_11 ?_
    refine V.icmp_ne aX6_needs_12 (tgt := 43) (by decide) (fun c12 => ?_) (fun c12 => ?_)
    · refine V.iconst aX6_needs_43 (by decide) ?_
      refine V.zret aX6_needs_44 rfl (by first | decide | exact b2_01 | omega) (by decide) ?_
      exact PI.of (by unfold b2; split <;> omega)
    · refine V.ild2 aX6_needs_15 ?_
      refine V.ald0 aX6_needs_16 ?_
      refine M.gf aX6_needs_17 fl_RX6_7 rfl ?_
      refine V.sipush aX6_needs_20 (by decide) (by decide) ?_
      refine V.ild1 aX6_needs_23 ?_
      refine V.iadd aX6_needs_24 (by omega) ?_
      refine M.lds aX6_needs_25 (by omega) ?_
      refine V.icmp_lt aX6_needs_26 (tgt := 43) (by decide) (fun c26 => ?_) (fun c26 => ?_)
      · refine V.iconst aX6_needs_43 (by decide) ?_
        refine V.zret aX6_needs_44 rfl (by first | decide | exact b2_01 | omega) (by decide) ?_
        exact PI.of (by unfold b2; split <;> omega)
      · refine V.ild2 aX6_needs_29 ?_
        refine V.ald0 aX6_needs_30 ?_
        refine V.ild1 aX6_needs_31 ?_
        refine V.ild3 aX6_needs_32 ?_
        refine call_X6_start aX6_needs_33 gl_RX6_70 (ok_start hN hp (by omega) (by omega)) (MM_o) (Nat.le_of_ble_eq_true rfl) (by decide) (goI ?_)
        refine V.icmp_lt aX6_needs_36 (tgt := 43) (by decide) (fun c36 => ?_) (fun c36 => ?_)
        · refine V.iconst aX6_needs_43 (by decide) ?_
          refine V.zret aX6_needs_44 rfl (by first | decide | exact b2_01 | omega) (by decide) ?_
          exact PI.of (by unfold b2; split <;> omega)
        · refine V.iconst aX6_needs_39 (by decide) ?_
          refine V.goto aX6_needs_40 (tgt := 44) (by decide) ?_
          refine V.zret aX6_needs_44 rfl (by first | decide | exact b2_01 | omega) (by decide) ?_
          exact PI.of (by unfold b2; split <;> omega)
theorem ok_isNeeded {k : Int} (hN : Num s) (hE : EntS s) (h0 : s 2 ≤ k) (h1 : k < s 3) : Ok G kX6_isNeeded 4 [.inr (some o), .inl k] sz (MM m o s sp pa sv sh ish tx ln cl bf mk st) 0 0 (PI (b2 (isN s k)) sz (MM m o s sp pa sv sh ish tx ln cl bf mk st)) := by
  refine Ok.body [some (.inr (some o)), some (.inl k), none] rfl (Nat.le_of_ble_eq_true rfl) (by decide) ?_
  obtain ⟨n0, n1, n2, n3, n4⟩ := id hN
  have hp := hE.p h0 h1
  refine V.ald0 aX6_isNeeded_0 ?_
  refine V.ild1 aX6_isNeeded_1 ?_
  refine V.iconst aX6_isNeeded_2 (by decide) ?_
  refine call_X6_of aX6_isNeeded_3 gl_RX6_66 (ok_of (by omega) (by omega) (by omega) (by omega) (by omega)) (MM_o) (Nat.le_of_ble_eq_true rfl) (by decide) (goI ?_)
  refine V.ist2 aX6_isNeeded_6 ?_
  refine V.ald0 aX6_isNeeded_7 ?_
  refine V.ild2 aX6_isNeeded_8 ?_
  refine V.ild1 aX6_isNeeded_9 ?_
  refine V.ald0 aX6_isNeeded_10 ?_
  refine M.gf aX6_isNeeded_11 fl_RX6_7 rfl ?_
  refine V.iconst aX6_isNeeded_14 (by decide) ?_
  refine M.lds aX6_isNeeded_15 (by omega) ?_
  refine call_X6_needs aX6_isNeeded_16 gl_RX6_73 (ok_needs hN hp (by omega) (by omega) (by omega)) (MM_o) (Nat.le_of_ble_eq_true rfl) (by decide) (goI ?_)
  refine V.ifb_ne aX6_isNeeded_19 (tgt := 37) (by decide) (fun c19 => ?_) (fun c19 => ?_)
  · refine V.iconst aX6_isNeeded_37 (by decide) ?_
    refine V.goto aX6_isNeeded_38 (tgt := 42) (by decide) ?_
    refine V.zret aX6_isNeeded_42 rfl (by first | decide | exact b2_01 | omega) (by decide) ?_
    exact PI.of (by unfold b2; split <;> omega)
  · refine V.ald0 aX6_isNeeded_22 ?_
    refine V.ild2 aX6_isNeeded_23 ?_
    refine V.ild1 aX6_isNeeded_24 ?_
    refine V.ald0 aX6_isNeeded_25 ?_
    refine M.gf aX6_isNeeded_26 fl_RX6_7 rfl ?_
    refine V.iconst aX6_isNeeded_29 (by decide) ?_
    refine M.lds aX6_isNeeded_30 (by omega) ?_
    refine call_X6_needs aX6_isNeeded_31 gl_RX6_73 (ok_needs hN hp (by omega) (by omega) (by omega)) (MM_o) (Nat.le_of_ble_eq_true rfl) (by decide) (goI ?_)
    refine V.ifb_eq aX6_isNeeded_34 (tgt := 41) (by decide) (fun c34 => ?_) (fun c34 => ?_)
    · refine V.iconst aX6_isNeeded_41 (by decide) ?_
      refine V.zret aX6_isNeeded_42 rfl (by first | decide | exact b2_01 | omega) (by decide) ?_
      exact PI.of (by unfold b2; split <;> omega)
    · refine V.iconst aX6_isNeeded_37 (by decide) ?_
      refine V.goto aX6_isNeeded_38 (tgt := 42) (by decide) ?_
      refine V.zret aX6_isNeeded_42 rfl (by first | decide | exact b2_01 | omega) (by decide) ?_
      exact PI.of (by unfold b2; split <;> omega)
theorem ok_neededMany (hN : Num s) (hE : EntS s) : Ok G kX6_neededMany 5 [.inr (some o)] sz (MM m o s sp pa sv sh ish tx ln cl bf mk st) 0 0 (PI (neededMany s) sz (MM m o s sp pa sv sh ish tx ln cl bf mk st)) := by
  refine Ok.body [some (.inr (some o)), none, none] rfl (Nat.le_of_ble_eq_true rfl) (by decide) ?_
  obtain ⟨n0, n1, n2, n3, n4⟩ := id hN
  have loop : ∀ (n : Nat) (k r : Int), (s 3 - k).toNat < n → s 2 ≤ k → k ≤ s 3 → (0 ≤ r ∧ r ≤ k - s 2) → r = foldI (fun n k => n + b2 (isN s k)) 0 (s 2) k → V G kX6_neededMany (rmM 5 0 0) (QfM G (PI (neededMany s) sz (MM m o s sp pa sv sh ish tx ln cl bf mk st)) 0 0) 9 [some (.inr (some o)), some (.inl r), some (.inl k)] [] sz (MM m o s sp pa sv sh ish tx ln cl bf mk st) 0 0 := by
    intro n
    induction n with
    | zero => intro k r h; omega
    | succ n ih =>
      intro k r hn hk1 hk2 hb hr
      refine V.ild2 aX6_neededMany_9 ?_
      refine V.ald0 aX6_neededMany_10 ?_
      refine M.gf aX6_neededMany_11 fl_RX6_7 rfl ?_
      refine V.iconst aX6_neededMany_14 (by decide) ?_
      refine M.lds aX6_neededMany_15 (by omega) ?_
      refine V.icmp_ge aX6_neededMany_16 (tgt := 41) (by decide) (fun c16 => ?_) (fun c16 => ?_)
      · refine V.ild1 aX6_neededMany_41 ?_
        refine V.iret aX6_neededMany_42 rfl (by decide) ?_
        exact PI.of (by rw [hr, show k = s 3 by omega]; rfl)
      · refine V.ild1 aX6_neededMany_19 ?_
        refine V.ald0 aX6_neededMany_20 ?_
        refine V.ild2 aX6_neededMany_21 ?_
        refine call_X6_isNeeded aX6_neededMany_22 gl_RX6_76 (ok_isNeeded hN hE (by omega) (by omega)) (MM_o) (Nat.le_of_ble_eq_true rfl) (by decide) (goI ?_)
        refine V.ifb_eq aX6_neededMany_25 (tgt := 32) (by decide) (fun c25 => ?_) (fun c25 => ?_)
        · refine V.iconst aX6_neededMany_32 (by decide) ?_
          refine V.iadd aX6_neededMany_33 (by omega) ?_
          refine V.ist1 aX6_neededMany_34 ?_
          refine V.inc2 aX6_neededMany_35 (by omega) ?_
          refine V.goto aX6_neededMany_38 (tgt := 9) (by decide) ?_
          refine ih (k + 1) _ (by omega) (by omega) (by omega) (by omega) ?_
          rw [foldI_s (by omega), ← hr]
          unfold b2
          split <;> omega
        · refine V.iconst aX6_neededMany_28 (by decide) ?_
          refine V.goto aX6_neededMany_29 (tgt := 33) (by decide) ?_
          refine V.iadd aX6_neededMany_33 (by omega) ?_
          refine V.ist1 aX6_neededMany_34 ?_
          refine V.inc2 aX6_neededMany_35 (by omega) ?_
          refine V.goto aX6_neededMany_38 (tgt := 9) (by decide) ?_
          refine ih (k + 1) _ (by omega) (by omega) (by omega) (by omega) ?_
          rw [foldI_s (by omega), ← hr]
          unfold b2
          split <;> omega
  refine V.iconst aX6_neededMany_0 (by decide) ?_
  refine V.ist1 aX6_neededMany_1 ?_
  refine V.ald0 aX6_neededMany_2 ?_
  refine M.gf aX6_neededMany_3 fl_RX6_7 rfl ?_
  refine V.iconst aX6_neededMany_6 (by decide) ?_
  refine M.lds aX6_neededMany_7 (by omega) ?_
  refine V.ist2 aX6_neededMany_8 ?_
  exact loop _ _ _ (Nat.lt_succ_self _) (Int.le_refl _) (by omega) (by omega) (foldI_0 (Int.le_refl _)).symm
theorem ok_firstDamaged {p e : Int} (hN : Num s) (hp : 0 ≤ p ∧ p < 6) (h1 : s 2 ≤ e) (h2 : e ≤ s 3) : Ok G kX6_firstDamaged 4 [.inr (some o), .inl p, .inl e] sz (MM m o s sp pa sv sh ish tx ln cl bf mk st) 0 0 (PI (firstDam s p e) sz (MM m o s sp pa sv sh ish tx ln cl bf mk st)) := by
  refine Ok.body [some (.inr (some o)), some (.inl p), some (.inl e), none, none] rfl (Nat.le_of_ble_eq_true rfl) (by decide) ?_
  obtain ⟨n0, n1, n2, n3, n4⟩ := id hN
  have loop : ∀ (n : Nat) (k r : Int), (k - s 2 + 1).toNat < n → s 2 ≤ k + 1 → k + 1 ≤ e → r = foldD (fun found k => if needsP s p k e ∧ ofE s k 4 = 1 then k else found) (-5) e (k + 1) → V G kX6_firstDamaged (rmM 4 0 0) (QfM G (PI (firstDam s p e) sz (MM m o s sp pa sv sh ish tx ln cl bf mk st)) 0 0) 8 [some (.inr (some o)), some (.inl p), some (.inl e), some (.inl r), some (.inl k)] [] sz (MM m o s sp pa sv sh ish tx ln cl bf mk st) 0 0 := by
    intro n
    induction n with
    | zero => intro k r h; omega
    | succ n ih =>
      intro k r hn hk1 hk2 hr
      refine V.ild4 aX6_firstDamaged_8 ?_
      refine V.ald0 aX6_firstDamaged_10 ?_
      refine M.gf aX6_firstDamaged_11 fl_RX6_7 rfl ?_
      refine V.iconst aX6_firstDamaged_14 (by decide) ?_
      refine M.lds aX6_firstDamaged_15 (by omega) ?_
      refine V.icmp_lt aX6_firstDamaged_16 (tgt := 54) (by decide) (fun c16 => ?_) (fun c16 => ?_)
      · refine V.ild3 aX6_firstDamaged_54 ?_
        refine V.iret aX6_firstDamaged_55 rfl (by decide) ?_
        exact PI.of (by rw [hr, show k + 1 = s 2 by omega]; rfl)
      · refine V.ald0 aX6_firstDamaged_19 ?_
        refine V.ild1 aX6_firstDamaged_20 ?_
        refine V.ild4 aX6_firstDamaged_21 ?_
        refine V.ild2 aX6_firstDamaged_23 ?_
        refine call_X6_needs aX6_firstDamaged_24 gl_RX6_73 (ok_needs hN hp (by omega) (by omega) (by omega)) (MM_o) (Nat.le_of_ble_eq_true rfl) (by decide) (goI ?_)
        refine V.ifb_eq aX6_firstDamaged_27 (tgt := 46) (by decide) (fun c27 => ?_) (fun c27 => ?_)
        · refine V.ild3 aX6_firstDamaged_46 ?_
          refine V.ist3 aX6_firstDamaged_47 ?_
          refine V.inc4 aX6_firstDamaged_48 (by omega) ?_
          refine V.goto aX6_firstDamaged_51 (tgt := 8) (by decide) ?_
          refine ih (k + -1) _ (by omega) (by omega) (by omega) ?_
          rw [show k + -1 + 1 = k + 1 - 1 by omega, foldD_s (by omega), ← hr, show k + 1 - 1 = k by omega]
          split <;> omega
        · refine V.ald0 aX6_firstDamaged_30 ?_
          refine V.ild4 aX6_firstDamaged_31 ?_
          refine V.iconst aX6_firstDamaged_33 (by decide) ?_
          refine call_X6_of aX6_firstDamaged_34 gl_RX6_66 (ok_of (by omega) (by omega) (by omega) (by omega) (by omega)) (MM_o) (Nat.le_of_ble_eq_true rfl) (by decide) (goI ?_)
          refine V.iconst aX6_firstDamaged_37 (by decide) ?_
          refine V.icmp_ne aX6_firstDamaged_38 (tgt := 46) (by decide) (fun c38 => ?_) (fun c38 => ?_)
          · refine V.ild3 aX6_firstDamaged_46 ?_
            refine V.ist3 aX6_firstDamaged_47 ?_
            refine V.inc4 aX6_firstDamaged_48 (by omega) ?_
            refine V.goto aX6_firstDamaged_51 (tgt := 8) (by decide) ?_
            refine ih (k + -1) _ (by omega) (by omega) (by omega) ?_
            rw [show k + -1 + 1 = k + 1 - 1 by omega, foldD_s (by omega), ← hr, show k + 1 - 1 = k by omega]
            split <;> omega
          · refine V.ild4 aX6_firstDamaged_41 ?_
            refine V.goto aX6_firstDamaged_43 (tgt := 47) (by decide) ?_
            refine V.ist3 aX6_firstDamaged_47 ?_
            refine V.inc4 aX6_firstDamaged_48 (by omega) ?_
            refine V.goto aX6_firstDamaged_51 (tgt := 8) (by decide) ?_
            refine ih (k + -1) _ (by omega) (by omega) (by omega) ?_
            rw [show k + -1 + 1 = k + 1 - 1 by omega, foldD_s (by omega), ← hr, show k + 1 - 1 = k by omega]
            split <;> omega
  refine V.bipush aX6_firstDamaged_0 (by decide) (by decide) ?_
  refine V.ist3 aX6_firstDamaged_2 ?_
  refine V.ild2 aX6_firstDamaged_3 ?_
  refine V.iconst aX6_firstDamaged_4 (by decide) ?_
  refine V.isub aX6_firstDamaged_5 (by omega) ?_
  refine V.ist4 aX6_firstDamaged_6 ?_
  exact loop _ _ _ (Nat.lt_succ_self _) (by omega) (by omega) (by rw [show e - 1 + 1 = e by omega, foldD_0 (Int.le_refl _)])
theorem ok_used (hN : Num s) (hE : EntS s) : Ok G kX6_used 2 [.inr (some o)] sz (MM m o s sp pa sv sh ish tx ln cl bf mk st) 0 0 (PI (used s) sz (MM m o s sp pa sv sh ish tx ln cl bf mk st)) := by
  refine Ok.body [some (.inr (some o)), none, none] rfl (Nat.le_of_ble_eq_true rfl) (by decide) ?_
  obtain ⟨n0, n1, n2, n3, n4⟩ := id hN
  have loop : ∀ (n : Nat) (k r : Int), (s 3 - k).toNat < n → s 2 ≤ k → k ≤ s 3 → r = foldI (fun sum k => sum + sizeA s (atE s k)) 0 (s 2) k → V G kX6_used (rmM 2 0 0) (QfM G (PI (used s) sz (MM m o s sp pa sv sh ish tx ln cl bf mk st)) 0 0) 9 [some (.inr (some o)), some (.inl r), some (.inl k)] [] sz (MM m o s sp pa sv sh ish tx ln cl bf mk st) 0 0 := by
    intro n
    induction n with
    | zero => intro k r h; omega
    | succ n ih =>
      intro k r hn hk1 hk2 hr
      have hb := used_b hE hk1 hk2
      rw [← hr] at hb
      refine V.ild2 aX6_used_9 ?_
      refine V.ald0 aX6_used_10 ?_
      refine M.gf aX6_used_11 fl_RX6_7 rfl ?_
      refine V.iconst aX6_used_14 (by decide) ?_
      refine M.lds aX6_used_15 (by omega) ?_
      refine V.icmp_ge aX6_used_16 (tgt := 40) (by decide) (fun c16 => ?_) (fun c16 => ?_)
      · refine V.ild1 aX6_used_40 ?_
        refine V.iret aX6_used_41 rfl (by decide) ?_
        exact PI.of (by rw [hr, show k = s 3 by omega]; rfl)
      · have q3 := hE.m3 hk1 (by omega)
        have qs := hE.sz hk1 (by omega)
        refine V.ild1 aX6_used_19 ?_
        refine V.ald0 aX6_used_20 ?_
        refine M.gf aX6_used_21 fl_RX6_7 rfl ?_
        refine V.ald0 aX6_used_24 ?_
        refine V.ild2 aX6_used_25 ?_
        refine call_X6_at aX6_used_26 gl_RX6_55 (ok_at (by omega) (by omega) (by omega)) (MM_o) (Nat.le_of_ble_eq_true rfl) (by decide) (goI ?_)
        refine call_X6_sizeAt aX6_used_29 gl_RX6_63 (ok_sizeAt MM_s (by omega) (by omega) (by omega) (by omega) (by omega)) (Nat.le_of_ble_eq_true rfl) (by decide) (goI ?_)
        refine V.iadd aX6_used_32 (by omega) ?_
        refine V.ist1 aX6_used_33 ?_
        refine V.inc2 aX6_used_34 (by omega) ?_
        refine V.goto aX6_used_37 (tgt := 9) (by decide) ?_
        exact ih (k + 1) _ (by omega) (by omega) (by omega) (by rw [foldI_s (by omega), ← hr])
  refine V.iconst aX6_used_0 (by decide) ?_
  refine V.ist1 aX6_used_1 ?_
  refine V.ald0 aX6_used_2 ?_
  refine M.gf aX6_used_3 fl_RX6_7 rfl ?_
  refine V.iconst aX6_used_6 (by decide) ?_
  refine M.lds aX6_used_7 (by omega) ?_
  refine V.ist2 aX6_used_8 ?_
  exact loop _ _ _ (Nat.lt_succ_self _) (Int.le_refl _) (by omega) (foldI_0 (Int.le_refl _)).symm
end

