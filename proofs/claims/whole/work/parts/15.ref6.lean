-- the reference's methods: contracts (part six): acts
def sumI (f : Int → Int) (a b : Int) : Int := foldI (fun x k => x + f k) 0 a b
theorem sumI_0 {f : Int → Int} {a b : Int} (h : b ≤ a) : sumI f a b = 0 := foldI_0 h
theorem sumI_s {f : Int → Int} {a k : Int} (h : a ≤ k) : sumI f a (k + 1) = sumI f a k + f k := foldI_s h
theorem sumI_add {f : Int → Int} {a b : Int} (hab : a ≤ b) : ∀ c, b ≤ c → sumI f a c = sumI f a b + sumI f b c := by
  intro c hc
  obtain ⟨n, hn⟩ : ∃ n : Nat, c = b + n := ⟨(c - b).toNat, by omega⟩
  subst hn
  clear hc
  induction n with
  | zero => rw [sumI_0 (a := b) (by omega), show b + ((0 : Nat) : Int) = b by omega]; omega
  | succ n ih => rw [show b + ((n + 1 : Nat) : Int) = (b + n) + 1 by omega, sumI_s (by omega), sumI_s (by omega), ih]; omega
theorem sumI_congr {f g : Int → Int} {a b : Int} (h : ∀ k, a ≤ k → k < b → f k = g k) : sumI f a b = sumI g a b := foldI_congr (fun k x h0 h1 => by rw [h k h0 h1])
theorem sumI_shift {f : Int → Int} {a b d : Int} : sumI f (a + d) (b + d) = sumI (fun k => f (k + d)) a b := by
  unfold sumI foldI
  rw [show b + d - (a + d) = b - a by omega]
  generalize (b - a).toNat = n
  induction n with
  | zero => rfl
  | succ n ih =>
    show _ + f _ = _ + f _
    rw [ih]
    congr 2
    omega
theorem sumI_lo {f : Int → Int} {a b c : Int} (hab : a ≤ b) (h : ∀ k, a ≤ k → k < b → c ≤ f k) (hc : 0 ≤ c) : c * (b - a) ≤ sumI f a b := by
  have := foldI_indB (f := fun x k => x + f k) (z := 0) (a := a) (e := b) (fun k x => c * (k - a) ≤ x) (by simp) (fun k x g0 g1 g2 => by
    have := h k g0 g1
    have e : c * (k + 1 - a) = c * (k - a) + c := by rw [show k + 1 - a = (k - a) + 1 by omega, Int.mul_add]; omega
    omega) b hab (Int.le_refl _)
  exact this
theorem used_eq {s : Int → Int} : used s = sumI (fun k => sizeA s (atE s k)) (s 2) (s 3) := rfl
theorem usedW_eq {s : Int → Int} {n : Int} (h0 : 0 ≤ n) (h1 : s 2 + n ≤ s 3) : usedW s n = sumI (fun k => sizeA s (atE s k)) (s 2 + n) (s 3) := by
  have e : ∀ k, 0 ≤ k → s 2 + k ≤ s 3 → usedW s k = sumI (fun k => sizeA s (atE s k)) (s 2 + k) (s 3) := by
    intro k hk
    obtain ⟨j, hj⟩ : ∃ j : Nat, k = j := ⟨k.toNat, by omega⟩
    subst hj
    clear hk
    induction j with
    | zero => intro _; unfold usedW; rw [foldI_0 (by omega), used_eq, show s 2 + ((0 : Nat) : Int) = s 2 by omega]
    | succ j ih =>
      intro hj
      have i1 := ih (by omega)
      unfold usedW at i1 ⊢
      rw [show ((j + 1 : Nat) : Int) = (j : Int) + 1 by omega, foldI_s (by omega), i1, sumI_add (b := s 2 + ((j : Int) + 1)) (by omega) (s 3) (by omega), show s 2 + ((j : Int) + 1) = s 2 + (j : Int) + 1 by omega, sumI_s (Int.le_refl _), sumI_0 (Int.le_refl _)]
      omega
  exact e n h0 h1
theorem fits_held {s mk : Int → Int} (hN : Num s) (hE : EntS s) (hM : entOK mk 0) (h1 : s 1 ≤ 300) (hf : fits1 s mk) : s 3 - (s 2 + droppable s (s 1 - sizeA mk 0)) < 100 := by
  obtain ⟨n0, n1, n2, n3, n4⟩ := id hN
  have hd := droppable_b (most := s 1 - sizeA mk 0) hN
  have hs := sizeA_b hM
  unfold fits1 at hf
  rw [usedW_eq hd.1 (by omega)] at hf
  have := sumI_lo (f := fun k => sizeA s (atE s k)) (a := s 2 + droppable s (s 1 - sizeA mk 0)) (b := s 3) (c := 3) (by omega) (fun k k0 k1 => (hE.sz (by omega) k1).1) (by decide)
  omega
section
variable {G : GX} {sz : Nat} {m : Mem} {o : Nat} {s sp pa sh tx cl bf mk : Int → Int} {sv ish ln st : Int}
theorem ok_acts (hN : Num s) (hE : EntS s) (hC : CellS s) (hM : entOK mk 0) (h1 : 0 ≤ s 1 ∧ s 1 ≤ 300) (h5 : (0 ≤ s 5 ∧ s 5 ≤ 30000) ∧ (0 ≤ s 6 ∧ s 6 ≤ 30000)) (hv : 0 ≤ sv ∧ sv ≤ 4) : Ok G kX6_acts 7 [.inr (some o)] sz (MM m o s sp pa sv sh ish tx ln cl bf mk st) 0 0 (PX m o (actZ s cl mk) sz (actS s cl mk) (actPa s cl mk pa sv) (actSv s cl mk sv) sh ish tx ln) := by
  refine Ok.body [some (.inr (some o))] rfl (Nat.le_of_ble_eq_true rfl) (by decide) ?_
  have hM2 := chMk_ok (s := s) (cl := cl) hC hM
  refine V.ald0 aX6_acts_0 ?_
  refine call_X6_chooses aX6_acts_1 gl_RX6_115 (ok_chooses hN hE hC hM) (MM_o) (Nat.le_of_ble_eq_true rfl) (by decide) (goV ?_)
  refine V.ald0 aX6_acts_4 ?_
  refine call_X6_hasRoom aX6_acts_5 gl_RX6_118 (ok_hasRoom hN hE hM2 h1) (MM_o) (Nat.le_of_ble_eq_true rfl) (by decide) (goI ?_)
  refine V.ifb_ne aX6_acts_8 (tgt := 14) (by decide) (fun c8 => ?_) (fun c8 => ?_)
  · refine V.ald0 aX6_acts_14 ?_
    refine V.ald0 aX6_acts_15 ?_
    refine M.gf aX6_acts_16 fl_RX6_7 rfl ?_
    refine call_X6_records aX6_acts_19 gl_RX6_51 (ok_records (fun _ _ => MM_s) (by omega) (by omega)) (MM_o) (Nat.le_of_ble_eq_true rfl) (by decide) (goV ?_)
    refine V.ald0 aX6_acts_22 ?_
    refine call_X6_logs aX6_acts_23 gl_RX6_122 (ok_logs hN hE hM2 h1 h5 c8 (fits_held hN hE hM2 h1.2 c8)) (MM_o) (Nat.le_of_ble_eq_true rfl) (by decide) (goV ?_)
    refine V.ald0 aX6_acts_26 ?_
    refine M.gf aX6_acts_27 fl_RX6_32 rfl ?_
    refine V.iconst aX6_acts_30 (by decide) ?_
    refine M.ldmk aX6_acts_31 (by omega) ?_
    refine V.iret aX6_acts_32 rfl (by decide) ?_
    exact PX.of (by unfold actZ; first | rw [if_pos c8] | rw [if_neg c8]) (by unfold actS; first | rw [if_pos c8] | rw [if_neg c8]) (by unfold actPa; first | rw [if_pos c8] | rw [if_neg c8]) (by unfold actSv; first | rw [if_pos c8] | rw [if_neg c8]) rfl rfl rfl rfl
  · refine V.bipush aX6_acts_11 (by decide) (by decide) ?_
    refine V.iret aX6_acts_13 rfl (by decide) ?_
    exact PX.of (by unfold actZ; first | rw [if_pos c8] | rw [if_neg c8]) (by unfold actS; first | rw [if_pos c8] | rw [if_neg c8]) (by unfold actPa; first | rw [if_pos c8] | rw [if_neg c8]) (by unfold actSv; first | rw [if_pos c8] | rw [if_neg c8]) rfl rfl rfl rfl
theorem ok_fill1 {p a b v : Int} (h : ¬ (0 ≤ p ∧ p ≤ 5 ∧ 0 ≤ a ∧ a ≤ 11 ∧ 0 ≤ b ∧ b ≤ 11)) : Ok G kX6_fill 8 [.inr (some o), .inl p, .inl a, .inl b, .inl v] sz (MM m o s sp pa sv sh ish tx ln cl bf mk st) 0 0 (PX m o (-1) sz s pa sv sh ish tx ln) := by
  refine Ok.body [some (.inr (some o)), some (.inl p), some (.inl a), some (.inl b), some (.inl v)] rfl (Nat.le_of_ble_eq_true rfl) (by decide) ?_
  refine V.ild1 aX6_fill_0 ?_
  refine call_X6_isPage aX6_fill_1 gl_RX6_125 (ok_isPage) (Nat.le_of_ble_eq_true rfl) (by decide) (goI ?_)
  refine V.ifb_eq aX6_fill_4 (tgt := 21) (by decide) (fun c4 => ?_) (fun c4 => ?_)
  · refine V.iconst aX6_fill_21 (by decide) ?_
    refine V.iret aX6_fill_22 rfl (by decide) ?_
    exact PX.of rfl rfl rfl rfl rfl rfl rfl rfl
  · refine V.ild2 aX6_fill_7 ?_
    refine call_X6_isCell aX6_fill_8 gl_RX6_128 (ok_isCell) (Nat.le_of_ble_eq_true rfl) (by decide) (goI ?_)
    refine V.ifb_eq aX6_fill_11 (tgt := 21) (by decide) (fun c11 => ?_) (fun c11 => ?_)
    · refine V.iconst aX6_fill_21 (by decide) ?_
      refine V.iret aX6_fill_22 rfl (by decide) ?_
      exact PX.of rfl rfl rfl rfl rfl rfl rfl rfl
    · refine V.ild3 aX6_fill_14 ?_
      refine call_X6_isCell aX6_fill_15 gl_RX6_128 (ok_isCell) (Nat.le_of_ble_eq_true rfl) (by decide) (goI ?_)
      refine V.ifb_ne aX6_fill_18 (tgt := 23) (by decide) (fun c18 => ?_) (fun c18 => ?_)
      · omega
      · refine V.iconst aX6_fill_21 (by decide) ?_
        refine V.iret aX6_fill_22 rfl (by decide) ?_
        exact PX.of rfl rfl rfl rfl rfl rfl rfl rfl
theorem ok_fill2 {p a b v : Int} (h : 0 ≤ p ∧ p ≤ 5 ∧ 0 ≤ a ∧ a ≤ 11 ∧ 0 ≤ b ∧ b ≤ 11) (h2 : b < a ∨ ¬ (0 ≤ v ∧ v ≤ 9)) : Ok G kX6_fill 8 [.inr (some o), .inl p, .inl a, .inl b, .inl v] sz (MM m o s sp pa sv sh ish tx ln cl bf mk st) 0 0 (PX m o (-2) sz s pa sv sh ish tx ln) := by
  refine Ok.body [some (.inr (some o)), some (.inl p), some (.inl a), some (.inl b), some (.inl v)] rfl (Nat.le_of_ble_eq_true rfl) (by decide) ?_
  refine V.ild1 aX6_fill_0 ?_
  refine call_X6_isPage aX6_fill_1 gl_RX6_125 (ok_isPage) (Nat.le_of_ble_eq_true rfl) (by decide) (goI ?_)
  refine V.ifb_eq aX6_fill_4 (tgt := 21) (by decide) (fun c4 => ?_) (fun c4 => ?_)
  · omega
  · refine V.ild2 aX6_fill_7 ?_
    refine call_X6_isCell aX6_fill_8 gl_RX6_128 (ok_isCell) (Nat.le_of_ble_eq_true rfl) (by decide) (goI ?_)
    refine V.ifb_eq aX6_fill_11 (tgt := 21) (by decide) (fun c11 => ?_) (fun c11 => ?_)
    · omega
    · refine V.ild3 aX6_fill_14 ?_
      refine call_X6_isCell aX6_fill_15 gl_RX6_128 (ok_isCell) (Nat.le_of_ble_eq_true rfl) (by decide) (goI ?_)
      refine V.ifb_ne aX6_fill_18 (tgt := 23) (by decide) (fun c18 => ?_) (fun c18 => ?_)
      · refine V.ild3 aX6_fill_23 ?_
        refine V.ild2 aX6_fill_24 ?_
        refine V.icmp_lt aX6_fill_25 (tgt := 39) (by decide) (fun c25 => ?_) (fun c25 => ?_)
        · refine V.bipush aX6_fill_39 (by decide) (by decide) ?_
          refine V.iret aX6_fill_41 rfl (by decide) ?_
          exact PX.of rfl rfl rfl rfl rfl rfl rfl rfl
        · refine V.ild4 aX6_fill_28 ?_
          refine V.iconst aX6_fill_30 (by decide) ?_
          refine V.bipush aX6_fill_31 (by decide) (by decide) ?_
          refine call_X6_in aX6_fill_33 gl_RX6_35 (ok_in) (Nat.le_of_ble_eq_true rfl) (by decide) (goI ?_)
          refine V.ifb_ne aX6_fill_36 (tgt := 42) (by decide) (fun c36 => ?_) (fun c36 => ?_)
          · omega
          · refine V.bipush aX6_fill_39 (by decide) (by decide) ?_
            refine V.iret aX6_fill_41 rfl (by decide) ?_
            exact PX.of rfl rfl rfl rfl rfl rfl rfl rfl
      · omega
theorem ok_fill3 {B p a b v : Int} (hI : Inv B s) (hv : 0 ≤ sv ∧ sv ≤ 4) (h : 0 ≤ p ∧ p ≤ 5 ∧ 0 ≤ a ∧ a ≤ 11 ∧ 0 ≤ b ∧ b ≤ 11) (h2 : a ≤ b ∧ 0 ≤ v ∧ v ≤ 9) : Ok G kX6_fill 8 [.inr (some o), .inl p, .inl a, .inl b, .inl v] sz (MM m o s sp pa sv sh ish tx ln cl bf mk st) 0 0 (PX m o (actZ s cl (mkF p 1 a (b - a + 1) v mk)) sz (actS s cl (mkF p 1 a (b - a + 1) v mk)) (actPa s cl (mkF p 1 a (b - a + 1) v mk) pa sv) (actSv s cl (mkF p 1 a (b - a + 1) v mk) sv) sh ish tx ln) := by
  refine Ok.body [some (.inr (some o)), some (.inl p), some (.inl a), some (.inl b), some (.inl v)] rfl (Nat.le_of_ble_eq_true rfl) (by decide) ?_
  have hM : entOK (mkF p 1 a (b - a + 1) v mk) 0 := mkF_ok (by omega) (by decide) (by omega) (by omega) (by omega) (by omega) (by omega)
  have hn := hI.num
  refine V.ild1 aX6_fill_0 ?_
  refine call_X6_isPage aX6_fill_1 gl_RX6_125 (ok_isPage) (Nat.le_of_ble_eq_true rfl) (by decide) (goI ?_)
  refine V.ifb_eq aX6_fill_4 (tgt := 21) (by decide) (fun c4 => ?_) (fun c4 => ?_)
  · omega
  · refine V.ild2 aX6_fill_7 ?_
    refine call_X6_isCell aX6_fill_8 gl_RX6_128 (ok_isCell) (Nat.le_of_ble_eq_true rfl) (by decide) (goI ?_)
    refine V.ifb_eq aX6_fill_11 (tgt := 21) (by decide) (fun c11 => ?_) (fun c11 => ?_)
    · omega
    · refine V.ild3 aX6_fill_14 ?_
      refine call_X6_isCell aX6_fill_15 gl_RX6_128 (ok_isCell) (Nat.le_of_ble_eq_true rfl) (by decide) (goI ?_)
      refine V.ifb_ne aX6_fill_18 (tgt := 23) (by decide) (fun c18 => ?_) (fun c18 => ?_)
      · refine V.ild3 aX6_fill_23 ?_
        refine V.ild2 aX6_fill_24 ?_
        refine V.icmp_lt aX6_fill_25 (tgt := 39) (by decide) (fun c25 => ?_) (fun c25 => ?_)
        · omega
        · refine V.ild4 aX6_fill_28 ?_
          refine V.iconst aX6_fill_30 (by decide) ?_
          refine V.bipush aX6_fill_31 (by decide) (by decide) ?_
          refine call_X6_in aX6_fill_33 gl_RX6_35 (ok_in) (Nat.le_of_ble_eq_true rfl) (by decide) (goI ?_)
          refine V.ifb_ne aX6_fill_36 (tgt := 42) (by decide) (fun c36 => ?_) (fun c36 => ?_)
          · refine V.ald0 aX6_fill_42 ?_
            refine V.ild1 aX6_fill_43 ?_
            refine V.iconst aX6_fill_44 (by decide) ?_
            refine V.ild2 aX6_fill_45 ?_
            refine V.ild3 aX6_fill_46 ?_
            refine V.ild2 aX6_fill_47 ?_
            refine V.isub aX6_fill_48 (by omega) ?_
            refine V.iconst aX6_fill_49 (by decide) ?_
            refine V.iadd aX6_fill_50 (by omega) ?_
            refine V.ild4 aX6_fill_51 ?_
            refine call_X6_makes aX6_fill_53 gl_RX6_102 (ok_makes) (MM_o) (Nat.le_of_ble_eq_true rfl) (by decide) (goV ?_)
            refine V.ald0 aX6_fill_56 ?_
            refine call_X6_acts aX6_fill_57 gl_RX6_131 (ok_acts hI.N hI.E hI.C hM (by omega) (by omega) hv) (MM_o) (Nat.le_of_ble_eq_true rfl) (by decide) (fun r57 z57 m57 h57 => ?_)
            obtain ⟨rfl, rfl, sp57, cl57, bf57, mk57, st57, rfl⟩ := h57
            refine V.iret aX6_fill_60 rfl (by decide) ?_
            exact PX.of rfl rfl rfl rfl rfl rfl rfl rfl
          · omega
      · omega
theorem ok_add1 {p a b v : Int} (h : ¬ (0 ≤ p ∧ p ≤ 5 ∧ 0 ≤ a ∧ a ≤ 11 ∧ 0 ≤ b ∧ b ≤ 11)) : Ok G kX6_add 8 [.inr (some o), .inl p, .inl a, .inl b, .inl v] sz (MM m o s sp pa sv sh ish tx ln cl bf mk st) 0 0 (PX m o (-1) sz s pa sv sh ish tx ln) := by
  refine Ok.body [some (.inr (some o)), some (.inl p), some (.inl a), some (.inl b), some (.inl v)] rfl (Nat.le_of_ble_eq_true rfl) (by decide) ?_
  refine V.ild1 aX6_add_0 ?_
  refine call_X6_isPage aX6_add_1 gl_RX6_125 (ok_isPage) (Nat.le_of_ble_eq_true rfl) (by decide) (goI ?_)
  refine V.ifb_eq aX6_add_4 (tgt := 21) (by decide) (fun c4 => ?_) (fun c4 => ?_)
  · refine V.iconst aX6_add_21 (by decide) ?_
    refine V.iret aX6_add_22 rfl (by decide) ?_
    exact PX.of rfl rfl rfl rfl rfl rfl rfl rfl
  · refine V.ild2 aX6_add_7 ?_
    refine call_X6_isCell aX6_add_8 gl_RX6_128 (ok_isCell) (Nat.le_of_ble_eq_true rfl) (by decide) (goI ?_)
    refine V.ifb_eq aX6_add_11 (tgt := 21) (by decide) (fun c11 => ?_) (fun c11 => ?_)
    · refine V.iconst aX6_add_21 (by decide) ?_
      refine V.iret aX6_add_22 rfl (by decide) ?_
      exact PX.of rfl rfl rfl rfl rfl rfl rfl rfl
    · refine V.ild3 aX6_add_14 ?_
      refine call_X6_isCell aX6_add_15 gl_RX6_128 (ok_isCell) (Nat.le_of_ble_eq_true rfl) (by decide) (goI ?_)
      refine V.ifb_ne aX6_add_18 (tgt := 23) (by decide) (fun c18 => ?_) (fun c18 => ?_)
      · omega
      · refine V.iconst aX6_add_21 (by decide) ?_
        refine V.iret aX6_add_22 rfl (by decide) ?_
        exact PX.of rfl rfl rfl rfl rfl rfl rfl rfl
theorem ok_add2 {p a b v : Int} (h : 0 ≤ p ∧ p ≤ 5 ∧ 0 ≤ a ∧ a ≤ 11 ∧ 0 ≤ b ∧ b ≤ 11) (h2 : b < a ∨ ¬ (1 ≤ v ∧ v ≤ 9)) : Ok G kX6_add 8 [.inr (some o), .inl p, .inl a, .inl b, .inl v] sz (MM m o s sp pa sv sh ish tx ln cl bf mk st) 0 0 (PX m o (-2) sz s pa sv sh ish tx ln) := by
  refine Ok.body [some (.inr (some o)), some (.inl p), some (.inl a), some (.inl b), some (.inl v)] rfl (Nat.le_of_ble_eq_true rfl) (by decide) ?_
  refine V.ild1 aX6_add_0 ?_
  refine call_X6_isPage aX6_add_1 gl_RX6_125 (ok_isPage) (Nat.le_of_ble_eq_true rfl) (by decide) (goI ?_)
  refine V.ifb_eq aX6_add_4 (tgt := 21) (by decide) (fun c4 => ?_) (fun c4 => ?_)
  · omega
  · refine V.ild2 aX6_add_7 ?_
    refine call_X6_isCell aX6_add_8 gl_RX6_128 (ok_isCell) (Nat.le_of_ble_eq_true rfl) (by decide) (goI ?_)
    refine V.ifb_eq aX6_add_11 (tgt := 21) (by decide) (fun c11 => ?_) (fun c11 => ?_)
    · omega
    · refine V.ild3 aX6_add_14 ?_
      refine call_X6_isCell aX6_add_15 gl_RX6_128 (ok_isCell) (Nat.le_of_ble_eq_true rfl) (by decide) (goI ?_)
      refine V.ifb_ne aX6_add_18 (tgt := 23) (by decide) (fun c18 => ?_) (fun c18 => ?_)
      · refine V.ild3 aX6_add_23 ?_
        refine V.ild2 aX6_add_24 ?_
        refine V.icmp_lt aX6_add_25 (tgt := 39) (by decide) (fun c25 => ?_) (fun c25 => ?_)
        · refine V.bipush aX6_add_39 (by decide) (by decide) ?_
          refine V.iret aX6_add_41 rfl (by decide) ?_
          exact PX.of rfl rfl rfl rfl rfl rfl rfl rfl
        · refine V.ild4 aX6_add_28 ?_
          refine V.iconst aX6_add_30 (by decide) ?_
          refine V.bipush aX6_add_31 (by decide) (by decide) ?_
          refine call_X6_in aX6_add_33 gl_RX6_35 (ok_in) (Nat.le_of_ble_eq_true rfl) (by decide) (goI ?_)
          refine V.ifb_ne aX6_add_36 (tgt := 42) (by decide) (fun c36 => ?_) (fun c36 => ?_)
          · omega
          · refine V.bipush aX6_add_39 (by decide) (by decide) ?_
            refine V.iret aX6_add_41 rfl (by decide) ?_
            exact PX.of rfl rfl rfl rfl rfl rfl rfl rfl
      · omega
theorem ok_add3 {B p a b v : Int} (hI : Inv B s) (hv : 0 ≤ sv ∧ sv ≤ 4) (h : 0 ≤ p ∧ p ≤ 5 ∧ 0 ≤ a ∧ a ≤ 11 ∧ 0 ≤ b ∧ b ≤ 11) (h2 : a ≤ b ∧ 1 ≤ v ∧ v ≤ 9) : Ok G kX6_add 8 [.inr (some o), .inl p, .inl a, .inl b, .inl v] sz (MM m o s sp pa sv sh ish tx ln cl bf mk st) 0 0 (PX m o (actZ s cl (mkF p 2 a (b - a + 1) v mk)) sz (actS s cl (mkF p 2 a (b - a + 1) v mk)) (actPa s cl (mkF p 2 a (b - a + 1) v mk) pa sv) (actSv s cl (mkF p 2 a (b - a + 1) v mk) sv) sh ish tx ln) := by
  refine Ok.body [some (.inr (some o)), some (.inl p), some (.inl a), some (.inl b), some (.inl v)] rfl (Nat.le_of_ble_eq_true rfl) (by decide) ?_
  have hM : entOK (mkF p 2 a (b - a + 1) v mk) 0 := mkF_ok (by omega) (by decide) (by omega) (by omega) (by omega) (by omega) (by omega)
  have hn := hI.num
  refine V.ild1 aX6_add_0 ?_
  refine call_X6_isPage aX6_add_1 gl_RX6_125 (ok_isPage) (Nat.le_of_ble_eq_true rfl) (by decide) (goI ?_)
  refine V.ifb_eq aX6_add_4 (tgt := 21) (by decide) (fun c4 => ?_) (fun c4 => ?_)
  · omega
  · refine V.ild2 aX6_add_7 ?_
    refine call_X6_isCell aX6_add_8 gl_RX6_128 (ok_isCell) (Nat.le_of_ble_eq_true rfl) (by decide) (goI ?_)
    refine V.ifb_eq aX6_add_11 (tgt := 21) (by decide) (fun c11 => ?_) (fun c11 => ?_)
    · omega
    · refine V.ild3 aX6_add_14 ?_
      refine call_X6_isCell aX6_add_15 gl_RX6_128 (ok_isCell) (Nat.le_of_ble_eq_true rfl) (by decide) (goI ?_)
      refine V.ifb_ne aX6_add_18 (tgt := 23) (by decide) (fun c18 => ?_) (fun c18 => ?_)
      · refine V.ild3 aX6_add_23 ?_
        refine V.ild2 aX6_add_24 ?_
        refine V.icmp_lt aX6_add_25 (tgt := 39) (by decide) (fun c25 => ?_) (fun c25 => ?_)
        · omega
        · refine V.ild4 aX6_add_28 ?_
          refine V.iconst aX6_add_30 (by decide) ?_
          refine V.bipush aX6_add_31 (by decide) (by decide) ?_
          refine call_X6_in aX6_add_33 gl_RX6_35 (ok_in) (Nat.le_of_ble_eq_true rfl) (by decide) (goI ?_)
          refine V.ifb_ne aX6_add_36 (tgt := 42) (by decide) (fun c36 => ?_) (fun c36 => ?_)
          · refine V.ald0 aX6_add_42 ?_
            refine V.ild1 aX6_add_43 ?_
            refine V.iconst aX6_add_44 (by decide) ?_
            refine V.ild2 aX6_add_45 ?_
            refine V.ild3 aX6_add_46 ?_
            refine V.ild2 aX6_add_47 ?_
            refine V.isub aX6_add_48 (by omega) ?_
            refine V.iconst aX6_add_49 (by decide) ?_
            refine V.iadd aX6_add_50 (by omega) ?_
            refine V.ild4 aX6_add_51 ?_
            refine call_X6_makes aX6_add_53 gl_RX6_102 (ok_makes) (MM_o) (Nat.le_of_ble_eq_true rfl) (by decide) (goV ?_)
            refine V.ald0 aX6_add_56 ?_
            refine call_X6_acts aX6_add_57 gl_RX6_131 (ok_acts hI.N hI.E hI.C hM (by omega) (by omega) hv) (MM_o) (Nat.le_of_ble_eq_true rfl) (by decide) (fun r57 z57 m57 h57 => ?_)
            obtain ⟨rfl, rfl, sp57, cl57, bf57, mk57, st57, rfl⟩ := h57
            refine V.iret aX6_add_60 rfl (by decide) ?_
            exact PX.of rfl rfl rfl rfl rfl rfl rfl rfl
          · omega
      · omega
theorem ok_turn1 {p v : Int} (h : ¬ (0 ≤ p ∧ p ≤ 5)) : Ok G kX6_turn 8 [.inr (some o), .inl p, .inl v] sz (MM m o s sp pa sv sh ish tx ln cl bf mk st) 0 0 (PX m o (-1) sz s pa sv sh ish tx ln) := by
  refine Ok.body [some (.inr (some o)), some (.inl p), some (.inl v)] rfl (Nat.le_of_ble_eq_true rfl) (by decide) ?_
  refine V.ild1 aX6_turn_0 ?_
  refine call_X6_isPage aX6_turn_1 gl_RX6_125 (ok_isPage) (Nat.le_of_ble_eq_true rfl) (by decide) (goI ?_)
  refine V.ifb_ne aX6_turn_4 (tgt := 9) (by decide) (fun c4 => ?_) (fun c4 => ?_)
  · omega
  · refine V.iconst aX6_turn_7 (by decide) ?_
    refine V.iret aX6_turn_8 rfl (by decide) ?_
    exact PX.of rfl rfl rfl rfl rfl rfl rfl rfl
theorem ok_turn2 {p v : Int} (h : 0 ≤ p ∧ p ≤ 5) (h2 : ¬ (1 ≤ v ∧ v ≤ 11)) : Ok G kX6_turn 8 [.inr (some o), .inl p, .inl v] sz (MM m o s sp pa sv sh ish tx ln cl bf mk st) 0 0 (PX m o (-2) sz s pa sv sh ish tx ln) := by
  refine Ok.body [some (.inr (some o)), some (.inl p), some (.inl v)] rfl (Nat.le_of_ble_eq_true rfl) (by decide) ?_
  refine V.ild1 aX6_turn_0 ?_
  refine call_X6_isPage aX6_turn_1 gl_RX6_125 (ok_isPage) (Nat.le_of_ble_eq_true rfl) (by decide) (goI ?_)
  refine V.ifb_ne aX6_turn_4 (tgt := 9) (by decide) (fun c4 => ?_) (fun c4 => ?_)
  · refine V.ild2 aX6_turn_9 ?_
    refine V.iconst aX6_turn_10 (by decide) ?_
    refine V.bipush aX6_turn_11 (by decide) (by decide) ?_
    refine call_X6_in aX6_turn_13 gl_RX6_35 (ok_in) (Nat.le_of_ble_eq_true rfl) (by decide) (goI ?_)
    refine V.ifb_ne aX6_turn_16 (tgt := 22) (by decide) (fun c16 => ?_) (fun c16 => ?_)
    · omega
    · refine V.bipush aX6_turn_19 (by decide) (by decide) ?_
      refine V.iret aX6_turn_21 rfl (by decide) ?_
      exact PX.of rfl rfl rfl rfl rfl rfl rfl rfl
  · omega
theorem ok_turn3 {B p v : Int} (hI : Inv B s) (hv : 0 ≤ sv ∧ sv ≤ 4) (h : 0 ≤ p ∧ p ≤ 5) (h2 : 1 ≤ v ∧ v ≤ 11) : Ok G kX6_turn 8 [.inr (some o), .inl p, .inl v] sz (MM m o s sp pa sv sh ish tx ln cl bf mk st) 0 0 (PX m o (actZ s cl (mkF p 3 0 12 v mk)) sz (actS s cl (mkF p 3 0 12 v mk)) (actPa s cl (mkF p 3 0 12 v mk) pa sv) (actSv s cl (mkF p 3 0 12 v mk) sv) sh ish tx ln) := by
  refine Ok.body [some (.inr (some o)), some (.inl p), some (.inl v)] rfl (Nat.le_of_ble_eq_true rfl) (by decide) ?_
  have hM : entOK (mkF p 3 0 12 v mk) 0 := mkF_ok (by omega) (by decide) (by omega) (by omega) (by omega) (by omega) (by omega)
  have hn := hI.num
  refine V.ild1 aX6_turn_0 ?_
  refine call_X6_isPage aX6_turn_1 gl_RX6_125 (ok_isPage) (Nat.le_of_ble_eq_true rfl) (by decide) (goI ?_)
  refine V.ifb_ne aX6_turn_4 (tgt := 9) (by decide) (fun c4 => ?_) (fun c4 => ?_)
  · refine V.ild2 aX6_turn_9 ?_
    refine V.iconst aX6_turn_10 (by decide) ?_
    refine V.bipush aX6_turn_11 (by decide) (by decide) ?_
    refine call_X6_in aX6_turn_13 gl_RX6_35 (ok_in) (Nat.le_of_ble_eq_true rfl) (by decide) (goI ?_)
    refine V.ifb_ne aX6_turn_16 (tgt := 22) (by decide) (fun c16 => ?_) (fun c16 => ?_)
    · refine V.ald0 aX6_turn_22 ?_
      refine V.ild1 aX6_turn_23 ?_
      refine V.iconst aX6_turn_24 (by decide) ?_
      refine V.iconst aX6_turn_25 (by decide) ?_
      refine V.bipush aX6_turn_26 (by decide) (by decide) ?_
      refine V.ild2 aX6_turn_28 ?_
      refine call_X6_makes aX6_turn_29 gl_RX6_102 (ok_makes) (MM_o) (Nat.le_of_ble_eq_true rfl) (by decide) (goV ?_)
      refine V.ald0 aX6_turn_32 ?_
      refine call_X6_acts aX6_turn_33 gl_RX6_131 (ok_acts hI.N hI.E hI.C hM (by omega) (by omega) hv) (MM_o) (Nat.le_of_ble_eq_true rfl) (by decide) (fun r33 z33 m33 h33 => ?_)
      obtain ⟨rfl, rfl, sp33, cl33, bf33, mk33, st33, rfl⟩ := h33
      refine V.iret aX6_turn_36 rfl (by decide) ?_
      exact PX.of rfl rfl rfl rfl rfl rfl rfl rfl
    · omega
  · omega
theorem ok_renew1 {p : Int} (h : ¬ (0 ≤ p ∧ p ≤ 5)) : Ok G kX6_renew 8 [.inr (some o), .inl p] sz (MM m o s sp pa sv sh ish tx ln cl bf mk st) 0 0 (PX m o (-1) sz s pa sv sh ish tx ln) := by
  refine Ok.body [some (.inr (some o)), some (.inl p)] rfl (Nat.le_of_ble_eq_true rfl) (by decide) ?_
  refine V.ild1 aX6_renew_0 ?_
  refine call_X6_isPage aX6_renew_1 gl_RX6_125 (ok_isPage) (Nat.le_of_ble_eq_true rfl) (by decide) (goI ?_)
  refine V.ifb_ne aX6_renew_4 (tgt := 9) (by decide) (fun c4 => ?_) (fun c4 => ?_)
  · omega
  · refine V.iconst aX6_renew_7 (by decide) ?_
    refine V.iret aX6_renew_8 rfl (by decide) ?_
    exact PX.of rfl rfl rfl rfl rfl rfl rfl rfl
def renCl (s cl : Int → Int) (p : Int) : Int → Int := cpy s (8 + 12 * p) cl 0 12
def renMk (s cl mk : Int → Int) (p : Int) : Int → Int := picF p (renCl s cl p) mk
theorem ok_renew2 {B p : Int} (hI : Inv B s) (hv : 0 ≤ sv ∧ sv ≤ 4) (h : 0 ≤ p ∧ p ≤ 5) (h2 : ¬ fits1 s (renMk s cl mk p)) : Ok G kX6_renew 8 [.inr (some o), .inl p] sz (MM m o s sp pa sv sh ish tx ln cl bf mk st) 0 0 (PX m o (-3) sz s pa sv sh ish tx ln) := by
  refine Ok.body [some (.inr (some o)), some (.inl p)] rfl (Nat.le_of_ble_eq_true rfl) (by decide) ?_
  have hM : entOK (renMk s cl mk p) 0 := picF_ok (by omega) (hold_b hI.C (Or.inl rfl) (by omega) cl)
  have hn := hI.num
  refine V.ild1 aX6_renew_0 ?_
  refine call_X6_isPage aX6_renew_1 gl_RX6_125 (ok_isPage) (Nat.le_of_ble_eq_true rfl) (by decide) (goI ?_)
  refine V.ifb_ne aX6_renew_4 (tgt := 9) (by decide) (fun c4 => ?_) (fun c4 => ?_)
  · refine V.ald0 aX6_renew_9 ?_
    refine V.bipush aX6_renew_10 (by decide) (by decide) ?_
    refine V.ild1 aX6_renew_12 ?_
    refine call_X6_holds aX6_renew_13 gl_RX6_83 (ok_holds (by omega) (by omega)) (MM_o) (Nat.le_of_ble_eq_true rfl) (by decide) (goV ?_)
    refine V.ald0 aX6_renew_16 ?_
    refine V.ild1 aX6_renew_17 ?_
    refine call_X6_pictures aX6_renew_18 gl_RX6_98 (ok_pictures) (MM_o) (Nat.le_of_ble_eq_true rfl) (by decide) (goV ?_)
    refine V.ald0 aX6_renew_21 ?_
    refine call_X6_hasRoom aX6_renew_22 gl_RX6_118 (ok_hasRoom hI.N hI.E hM (by omega)) (MM_o) (Nat.le_of_ble_eq_true rfl) (by decide) (goI ?_)
    refine V.ifb_ne aX6_renew_25 (tgt := 31) (by decide) (fun c25 => ?_) (fun c25 => ?_)
    · exact absurd c25 h2
    · refine V.bipush aX6_renew_28 (by decide) (by decide) ?_
      refine V.iret aX6_renew_30 rfl (by decide) ?_
      exact PX.of rfl rfl rfl rfl rfl rfl rfl rfl
  · omega
theorem logsF_3 {s cl mk : Int → Int} (hN : Num s) (hE : EntS s) (hM : entOK mk 0) : logsF s cl mk 3 = s 3 + 1 := by
  obtain ⟨n0, n1, n2, n3, n4⟩ := id hN
  have hd := droppable_b (most := s 1 - sizeA mk 0) hN
  have hp : 0 ≤ mk 0 ∧ mk 0 < 6 := hM.1
  unfold logsF logS5 logS4
  rw [upI_n (by split <;> omega), upI_n (by omega), cpy_out (by omega), cpy_out (by unfold logE; omega), upI_s]
theorem ok_renew3 {B p : Int} (hI : Inv B s) (hv : 0 ≤ sv ∧ sv ≤ 4) (h : 0 ≤ p ∧ p ≤ 5) (h2 : fits1 s (renMk s cl mk p)) : Ok G kX6_renew 8 [.inr (some o), .inl p] sz (MM m o s sp pa sv sh ish tx ln cl bf mk st) 0 0 (PX m o (s 3) sz (logsF s (renCl s cl p) (renMk s cl mk p)) (recA pa sv s) (recV sv) sh ish tx ln) := by
  refine Ok.body [some (.inr (some o)), some (.inl p)] rfl (Nat.le_of_ble_eq_true rfl) (by decide) ?_
  have hM : entOK (renMk s cl mk p) 0 := picF_ok (by omega) (hold_b hI.C (Or.inl rfl) (by omega) cl)
  have hn := hI.num
  have e3 : logsF s (cpy s (8 + 12 * p) cl 0 12) (picF p (cpy s (8 + 12 * p) cl 0 12) mk) 3 = s 3 + 1 := logsF_3 hI.N hI.E hM
  refine V.ild1 aX6_renew_0 ?_
  refine call_X6_isPage aX6_renew_1 gl_RX6_125 (ok_isPage) (Nat.le_of_ble_eq_true rfl) (by decide) (goI ?_)
  refine V.ifb_ne aX6_renew_4 (tgt := 9) (by decide) (fun c4 => ?_) (fun c4 => ?_)
  · refine V.ald0 aX6_renew_9 ?_
    refine V.bipush aX6_renew_10 (by decide) (by decide) ?_
    refine V.ild1 aX6_renew_12 ?_
    refine call_X6_holds aX6_renew_13 gl_RX6_83 (ok_holds (by omega) (by omega)) (MM_o) (Nat.le_of_ble_eq_true rfl) (by decide) (goV ?_)
    refine V.ald0 aX6_renew_16 ?_
    refine V.ild1 aX6_renew_17 ?_
    refine call_X6_pictures aX6_renew_18 gl_RX6_98 (ok_pictures) (MM_o) (Nat.le_of_ble_eq_true rfl) (by decide) (goV ?_)
    refine V.ald0 aX6_renew_21 ?_
    refine call_X6_hasRoom aX6_renew_22 gl_RX6_118 (ok_hasRoom hI.N hI.E hM (by omega)) (MM_o) (Nat.le_of_ble_eq_true rfl) (by decide) (goI ?_)
    refine V.ifb_ne aX6_renew_25 (tgt := 31) (by decide) (fun c25 => ?_) (fun c25 => ?_)
    · refine V.ald0 aX6_renew_31 ?_
      refine V.ald0 aX6_renew_32 ?_
      refine M.gf aX6_renew_33 fl_RX6_7 rfl ?_
      refine call_X6_records aX6_renew_36 gl_RX6_51 (ok_records (fun _ _ => MM_s) (by omega) (by omega)) (MM_o) (Nat.le_of_ble_eq_true rfl) (by decide) (goV ?_)
      refine V.ald0 aX6_renew_39 ?_
      refine call_X6_logs aX6_renew_40 gl_RX6_122 (ok_logs hI.N hI.E hM (by omega) (by omega) h2 (fits_held hI.N hI.E hM (by omega) h2)) (MM_o) (Nat.le_of_ble_eq_true rfl) (by decide) (goV ?_)
      refine V.ald0 aX6_renew_43 ?_
      refine M.gf aX6_renew_44 fl_RX6_7 rfl ?_
      refine V.iconst aX6_renew_47 (by decide) ?_
      refine M.lds aX6_renew_48 (by omega) ?_
      refine V.iconst aX6_renew_49 (by decide) ?_
      refine V.isub aX6_renew_50 (by omega) ?_
      refine V.iret aX6_renew_51 rfl (by decide) ?_
      exact PX.of (by omega) rfl rfl rfl rfl rfl rfl rfl
    · exact absurd h2 c25
  · omega
theorem ok_undo1 (h : sv = 0) : Ok G kX6_undo 8 [.inr (some o)] sz (MM m o s sp pa sv sh ish tx ln cl bf mk st) 0 0 (PX m o (-5) sz s pa sv sh ish tx ln) := by
  refine Ok.body [some (.inr (some o))] rfl (Nat.le_of_ble_eq_true rfl) (by decide) ?_
  refine V.ald0 aX6_undo_0 ?_
  refine M.gf aX6_undo_1 fl_RX6_39 rfl ?_
  refine V.if_ne aX6_undo_4 (tgt := 10) (by decide) (fun c4 => ?_) (fun c4 => ?_)
  · omega
  · refine V.bipush aX6_undo_7 (by decide) (by decide) ?_
    refine V.iret aX6_undo_9 rfl (by decide) ?_
    exact PX.of rfl rfl rfl rfl rfl rfl rfl rfl
theorem ok_undo2 (h : 1 ≤ sv ∧ sv ≤ 4) : Ok G kX6_undo 8 [.inr (some o)] sz (MM m o s sp pa sv sh ish tx ln cl bf mk st) 0 0 (PX m o (sv - 1) sz (cpy pa (1870 * (sv - 1)) s 0 1870) pa (sv - 1) sh ish tx ln) := by
  refine Ok.body [some (.inr (some o))] rfl (Nat.le_of_ble_eq_true rfl) (by decide) ?_
  refine V.ald0 aX6_undo_0 ?_
  refine M.gf aX6_undo_1 fl_RX6_39 rfl ?_
  refine V.if_ne aX6_undo_4 (tgt := 10) (by decide) (fun c4 => ?_) (fun c4 => ?_)
  · refine V.ald0 aX6_undo_10 ?_
    refine V.dup aX6_undo_11 ?_
    refine M.gf aX6_undo_12 fl_RX6_39 rfl ?_
    refine V.iconst aX6_undo_15 (by decide) ?_
    refine V.isub aX6_undo_16 (by omega) ?_
    refine M.pfsv aX6_undo_17 fl_RX6_39 ?_
    refine V.ald0 aX6_undo_20 ?_
    refine M.gf aX6_undo_21 fl_RX6_16 rfl ?_
    refine V.sipush aX6_undo_24 (by decide) (by decide) ?_
    refine V.ald0 aX6_undo_27 ?_
    refine M.gf aX6_undo_28 fl_RX6_39 rfl ?_
    refine V.imul aX6_undo_31 (by omega) ?_
    refine V.ald0 aX6_undo_32 ?_
    refine M.gf aX6_undo_33 fl_RX6_7 rfl ?_
    refine V.iconst aX6_undo_36 (by decide) ?_
    refine call_X6_lays aX6_undo_37 gl_RX6_43 (ok_lays MM_pa MM_s (by omega) (by omega) (by decide)) (Nat.le_of_ble_eq_true rfl) (by decide) (goV ?_)
    refine V.mem MM_ws.symm ?_
    refine V.ald0 aX6_undo_40 ?_
    refine M.gf aX6_undo_41 fl_RX6_39 rfl ?_
    refine V.iret aX6_undo_44 rfl (by decide) ?_
    exact PX.of rfl rfl rfl rfl rfl rfl rfl rfl
  · omega
theorem ok_keep : Ok G kX6_keep 8 [.inr (some o)] sz (MM m o s sp pa sv sh ish tx ln cl bf mk st) 0 0 (PX m o (s 3) sz s pa sv (cpy s 0 sh 0 1870) 1 tx ln) := by
  refine Ok.body [some (.inr (some o))] rfl (Nat.le_of_ble_eq_true rfl) (by decide) ?_
  refine V.ald0 aX6_keep_0 ?_
  refine M.gf aX6_keep_1 fl_RX6_7 rfl ?_
  refine V.iconst aX6_keep_4 (by decide) ?_
  refine V.ald0 aX6_keep_5 ?_
  refine M.gf aX6_keep_6 fl_RX6_19 rfl ?_
  refine V.iconst aX6_keep_9 (by decide) ?_
  refine call_X6_lays aX6_keep_10 gl_RX6_43 (ok_lays MM_s MM_sh (by omega) (by decide) (by decide)) (Nat.le_of_ble_eq_true rfl) (by decide) (goV ?_)
  refine V.mem MM_wsh.symm ?_
  refine V.ald0 aX6_keep_13 ?_
  refine V.iconst aX6_keep_14 (by decide) ?_
  refine M.pfish aX6_keep_15 fl_RX6_47 (by decide) ?_
  refine V.ald0 aX6_keep_18 ?_
  refine M.gf aX6_keep_19 fl_RX6_7 rfl ?_
  refine V.iconst aX6_keep_22 (by decide) ?_
  refine M.lds aX6_keep_23 (by omega) ?_
  refine V.iret aX6_keep_24 rfl (by decide) ?_
  exact PX.of rfl rfl rfl rfl rfl rfl rfl rfl
theorem ok_restore1 (h : ish = 0) : Ok G kX6_restore 8 [.inr (some o)] sz (MM m o s sp pa sv sh ish tx ln cl bf mk st) 0 0 (PX m o (-5) sz s pa sv sh ish tx ln) := by
  refine Ok.body [some (.inr (some o))] rfl (Nat.le_of_ble_eq_true rfl) (by decide) ?_
  refine V.ald0 aX6_restore_0 ?_
  refine M.gf aX6_restore_1 fl_RX6_47 rfl ?_
  refine V.if_ne aX6_restore_4 (tgt := 10) (by decide) (fun c4 => ?_) (fun c4 => ?_)
  · omega
  · refine V.bipush aX6_restore_7 (by decide) (by decide) ?_
    refine V.iret aX6_restore_9 rfl (by decide) ?_
    exact PX.of rfl rfl rfl rfl rfl rfl rfl rfl
theorem ok_restore2 (h : ish ≠ 0) (hv : 0 ≤ sv ∧ sv ≤ 4) : Ok G kX6_restore 8 [.inr (some o)] sz (MM m o s sp pa sv sh ish tx ln cl bf mk st) 0 0 (PX m o (sh 3) sz (cpy sh 0 s 0 1870) (recA pa sv s) (recV sv) sh ish tx ln) := by
  refine Ok.body [some (.inr (some o))] rfl (Nat.le_of_ble_eq_true rfl) (by decide) ?_
  refine V.ald0 aX6_restore_0 ?_
  refine M.gf aX6_restore_1 fl_RX6_47 rfl ?_
  refine V.if_ne aX6_restore_4 (tgt := 10) (by decide) (fun c4 => ?_) (fun c4 => ?_)
  · refine V.ald0 aX6_restore_10 ?_
    refine V.ald0 aX6_restore_11 ?_
    refine M.gf aX6_restore_12 fl_RX6_7 rfl ?_
    refine call_X6_records aX6_restore_15 gl_RX6_51 (ok_records (fun _ _ => MM_s) (by omega) (by omega)) (MM_o) (Nat.le_of_ble_eq_true rfl) (by decide) (goV ?_)
    refine V.ald0 aX6_restore_18 ?_
    refine M.gf aX6_restore_19 fl_RX6_19 rfl ?_
    refine V.iconst aX6_restore_22 (by decide) ?_
    refine V.ald0 aX6_restore_23 ?_
    refine M.gf aX6_restore_24 fl_RX6_7 rfl ?_
    refine V.iconst aX6_restore_27 (by decide) ?_
    refine call_X6_lays aX6_restore_28 gl_RX6_43 (ok_lays MM_sh MM_s (by omega) (by decide) (by decide)) (Nat.le_of_ble_eq_true rfl) (by decide) (goV ?_)
    refine V.mem MM_ws.symm ?_
    refine V.ald0 aX6_restore_31 ?_
    refine M.gf aX6_restore_32 fl_RX6_7 rfl ?_
    refine V.iconst aX6_restore_35 (by decide) ?_
    refine M.lds aX6_restore_36 (by omega) ?_
    refine V.iret aX6_restore_37 rfl (by decide) ?_
    exact PX.of (by rw [cpy_in (by decide)]; rfl) rfl rfl rfl rfl rfl rfl rfl
  · omega
theorem ok_type1 {c : Int} (h : ln = 60) : Ok G kX6_type 8 [.inr (some o), .inl c] sz (MM m o s sp pa sv sh ish tx ln cl bf mk st) 0 0 (PX m o (-3) sz s pa sv sh ish tx ln) := by
  refine Ok.body [some (.inr (some o)), some (.inl c)] rfl (Nat.le_of_ble_eq_true rfl) (by decide) ?_
  refine V.ald0 aX6_type_0 ?_
  refine M.gf aX6_type_1 fl_RX6_134 rfl ?_
  refine V.bipush aX6_type_4 (by decide) (by decide) ?_
  refine V.icmp_ne aX6_type_6 (tgt := 12) (by decide) (fun c6 => ?_) (fun c6 => ?_)
  · omega
  · refine V.bipush aX6_type_9 (by decide) (by decide) ?_
    refine V.iret aX6_type_11 rfl (by decide) ?_
    exact PX.of rfl rfl rfl rfl rfl rfl rfl rfl
theorem ok_type2 {c : Int} (h : 0 ≤ ln ∧ ln < 60) (hc : 0 ≤ c ∧ c < 65536) : Ok G kX6_type 8 [.inr (some o), .inl c] sz (MM m o s sp pa sv sh ish tx ln cl bf mk st) 0 0 (PX m o (ln + 1) sz s pa sv sh ish (upI tx ln c) (ln + 1)) := by
  refine Ok.body [some (.inr (some o)), some (.inl c)] rfl (Nat.le_of_ble_eq_true rfl) (by decide) ?_
  refine V.ald0 aX6_type_0 ?_
  refine M.gf aX6_type_1 fl_RX6_134 rfl ?_
  refine V.bipush aX6_type_4 (by decide) (by decide) ?_
  refine V.icmp_ne aX6_type_6 (tgt := 12) (by decide) (fun c6 => ?_) (fun c6 => ?_)
  · refine V.ald0 aX6_type_12 ?_
    refine M.gf aX6_type_13 fl_RX6_22 rfl ?_
    refine V.ald0 aX6_type_16 ?_
    refine M.gf aX6_type_17 fl_RX6_134 rfl ?_
    refine V.ild1 aX6_type_20 ?_
    refine M.sttx aX6_type_21 (by omega) (by omega) ?_
    refine V.ald0 aX6_type_22 ?_
    refine V.dup aX6_type_23 ?_
    refine M.gf aX6_type_24 fl_RX6_134 rfl ?_
    refine V.iconst aX6_type_27 (by decide) ?_
    refine V.iadd aX6_type_28 (by omega) ?_
    refine M.pfln aX6_type_29 fl_RX6_134 ?_
    refine V.ald0 aX6_type_32 ?_
    refine M.gf aX6_type_33 fl_RX6_134 rfl ?_
    refine V.iret aX6_type_36 rfl (by decide) ?_
    exact PX.of rfl rfl rfl rfl rfl rfl rfl rfl
  · omega
theorem ok_clearText : Ok G kX6_clearText 8 [.inr (some o)] sz (MM m o s sp pa sv sh ish tx ln cl bf mk st) 0 0 (PX m o ln sz s pa sv sh ish tx 0) := by
  refine Ok.body [some (.inr (some o)), none] rfl (Nat.le_of_ble_eq_true rfl) (by decide) ?_
  refine V.ald0 aX6_clearText_0 ?_
  refine M.gf aX6_clearText_1 fl_RX6_134 rfl ?_
  refine V.ist1 aX6_clearText_4 ?_
  refine V.ald0 aX6_clearText_5 ?_
  refine V.iconst aX6_clearText_6 (by decide) ?_
  refine M.pfln aX6_clearText_7 fl_RX6_134 ?_
  refine V.ild1 aX6_clearText_10 ?_
  refine V.iret aX6_clearText_11 rfl (by decide) ?_
  exact PX.of rfl rfl rfl rfl rfl rfl rfl rfl
end

