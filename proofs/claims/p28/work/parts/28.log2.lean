-- the log's readers (part two)
theorem le_max1 {a b c : Int} (h : max a b = c) : a ≤ c ∧ b ≤ c ∧ (c = a ∨ c = b) := by omega
def cntOf (s : Int → Int) (p a e : Int) : Int := foldI (fun n k => n + b2 (ofE s k 0 = p)) 0 a e
def timOf (s : Int → Int) (p a e : Int) : Int := foldI (fun n k => n + (if ofE s k 0 = p then timeA s (atE s k) else 0)) 0 a e
def damF (s : Int → Int) (p : Int) (found k : Int) : Int := if ofE s k 0 = p ∧ ofE s k 4 = 1 then k else found
def fdam (s : Int → Int) (p a e : Int) : Int := foldD (damF s p) e e a
theorem ofE0 {s : Int → Int} {k : Int} : ofE s k 0 = s (170 + 17 * (k - s 2)) := by
  show s (170 + 17 * (k - s 2) + 0) = _
  rw [Int.add_zero]
theorem last_at {s : Int → Int} {p e k : Int} (hk : s 2 ≤ k ∧ k < e) (hc : ofE s k 0 = p ∧ ofE s k 1 = 0) (h : ∀ j, k < j → j < e → ¬ (ofE s j 0 = p ∧ ofE s j 1 = 0)) : foldI (asFrF s p) (-5) (s 2) e = k := by
  have e1 : foldI (asFrF s p) (-5) (s 2) (k + 1) = k := by
    rw [foldI_s hk.1]
    exact if_pos hc
  refine foldI_ind (f := asFrF s p) (z := -5) (a := s 2) (fun b x => k + 1 ≤ b → b ≤ e → x = k) (fun g _ => by omega) (fun b x g0 g1 g2 g3 => ?_) e (by omega) (by omega) (Int.le_refl _)
  by_cases hb : b = k
  · subst hb
    exact if_pos hc
  · rw [show asFrF s p x b = x from if_neg (h b (by omega) (by omega))]
    exact g1 (by omega) (by omega)
theorem last_none {s : Int → Int} {p e : Int} (h : ∀ j, s 2 ≤ j → j < e → ¬ (ofE s j 0 = p ∧ ofE s j 1 = 0)) (he : s 2 ≤ e) : foldI (asFrF s p) (-5) (s 2) e = -5 := by
  refine foldI_indB (f := asFrF s p) (z := -5) (a := s 2) (e := e) (fun b x => x = -5) rfl (fun b x g0 g1 g2 => ?_) e he (Int.le_refl _)
  rw [show asFrF s p x b = x from if_neg (h b g0 g1)]
  exact g2
theorem fdam_at {s : Int → Int} {p a e k : Int} (hk : a ≤ k ∧ k < e) (hc : ofE s k 0 = p ∧ ofE s k 4 = 1) (h : ∀ j, a ≤ j → j < k → ¬ (ofE s j 0 = p ∧ ofE s j 4 = 1)) : fdam s p a e = k := by
  unfold fdam
  rw [foldD_add (b := k) hk.1 (by omega)]
  have e1 : foldD (damF s p) e e k = k := by
    have := foldD_s (f := damF s p) (z := e) (b := e) (k := k + 1) (by omega)
    rw [show k + 1 - 1 = k by omega] at this
    rw [this]
    exact if_pos hc
  rw [e1]
  refine foldD_ind (f := damF s p) (z := k) (b := k) (fun i x => a ≤ i → x = k) (fun _ => rfl) (fun i x g0 g1 g2 => ?_) a hk.1 (Int.le_refl _)
  rw [show damF s p x (i - 1) = x from if_neg (h (i - 1) g2 (by omega))]
  exact g1 (by omega)
theorem fdam_none {s : Int → Int} {p a e : Int} (h : ∀ j, a ≤ j → j < e → ¬ (ofE s j 0 = p ∧ ofE s j 4 = 1)) : fdam s p a e = e := by
  unfold fdam
  by_cases ha : a ≤ e
  · refine foldD_ind (f := damF s p) (z := e) (b := e) (fun i x => a ≤ i → x = e) (fun _ => rfl) (fun i x g0 g1 g2 => ?_) a ha (Int.le_refl _)
    rw [show damF s p x (i - 1) = x from if_neg (h (i - 1) g2 (by omega))]
    exact g1 (by omega)
  · exact foldD_0 (by omega)
theorem tim_b {s : Int → Int} (hE : EntS s) {p a : Int} (ha : s 2 ≤ a) {k : Int} (h1 : a ≤ k) (h2 : k ≤ s 3) : 0 ≤ timOf s p a k ∧ timOf s p a k ≤ 27 * (k - a) :=
  foldI_indB (fun k x => 0 ≤ x ∧ x ≤ 27 * (k - a)) (by omega) (fun k x g1 g2 g3 => by have := hE.tm (k := k) (by omega) (by omega); dsimp only [atE]; split <;> omega) k h1 h2
section
variable {G : GX} {sz : Nat} {m : Mem} {B Z t0 : Nat} {s : Int → Int} {g : Int → Option Nat}
theorem ok_time {e va : Nat} {f : Int → Int} {a am : Int} (ho : m e = obj 0 (eobj f a am va)) (h : entOK f a) (h0 : 0 ≤ a) : Ok G kX0_time 0 [.inr (some e)] sz m 0 0 (PI (timeA f a) sz m) := by
  refine Ok.body [some (.inr (some e))] rfl (Nat.le_of_ble_eq_true rfl) (by decide) ?_
  have hs := sizeA_b h
  obtain ⟨-, g1, g2, -, -, -, -, g7, -⟩ := id h
  refine V.ald0 aX0_time_0 ?_
  refine V.getf aX0_time_1 fl_RX0_15 ho rfl ?_
  refine V.if_ne aX0_time_4 (tgt := 14) (by decide) (fun c4 => ?_) (fun c4 => ?_)
  · refine V.ald0 aX0_time_14 ?_
    refine V.getf aX0_time_15 fl_RX0_39 ho rfl ?_
    refine V.ald0 aX0_time_18 ?_
    refine V.getf aX0_time_19 fl_RX0_21 ho rfl ?_
    refine V.iadd aX0_time_22 (by omega) ?_
    refine V.ald0 aX0_time_23 ?_
    refine V.getf aX0_time_24 fl_RX0_18 ho rfl ?_
    refine V.isub aX0_time_27 (by omega) ?_
    refine V.iconst aX0_time_28 (by decide) ?_
    refine V.iadd aX0_time_29 (by omega) ?_
    refine V.iret aX0_time_30 rfl (by decide) ?_
    exact PI.of (by unfold timeA; first | (simp [c4]; done) | (rw [if_neg c4]; split <;> omega))
  · refine V.ald0 aX0_time_7 ?_
    refine V.getf aX0_time_8 fl_RX0_39 ho rfl ?_
    refine V.goto aX0_time_11 (tgt := 30) (by decide) ?_
    refine V.iret aX0_time_30 rfl (by decide) ?_
    exact PI.of (by unfold timeA; first | (simp [c4]; done) | (rw [if_neg c4]; split <;> omega))
theorem ok_pics {a : Nat} {f : Int → Int} (hv : m a = iar 12 f) : Ok G kX0_sizeOfPicture 0 [.inr (some a)] sz m 0 0 (PI (pict f 0) sz m) := by
  refine Ok.body [some (.inr (some a)), none, none] rfl (Nat.le_of_ble_eq_true rfl) (by decide) ?_
  have loop : ∀ (n : Nat) (k r : Int), (12 - k).toNat < n → 1 ≤ k → k ≤ 12 → r = foldI (pictF f 0) 1 1 k → V G kX0_sizeOfPicture (rmM 0 0 0) (QfM G (PI (pict f 0) sz m) 0 0) 4 [some (.inr (some a)), some (.inl r), some (.inl k)] [] sz m 0 0 := by
    intro n
    induction n with
    | zero => intro k r h; omega
    | succ n ih =>
      intro k r hn hk1 hk2 hr
      have hb := pictR_b (f := f) (a := 0) (k := k) hk1
      have e1 : f k = f (0 + k) := by rw [Int.zero_add]
      have e2 : f (k - 1) = f (0 + k - 1) := by rw [Int.zero_add]
      refine V.ild2 aX0_sizeOfPicture_4 ?_
      refine V.ald0 aX0_sizeOfPicture_5 ?_
      refine V.alen aX0_sizeOfPicture_6 hv (by omega) ?_
      refine V.icmp_ge aX0_sizeOfPicture_7 (tgt := 30) (by decide) (fun c7 => ?_) (fun c7 => ?_)
      · refine V.iconst aX0_sizeOfPicture_30 (by decide) ?_
        refine V.iconst aX0_sizeOfPicture_31 (by decide) ?_
        refine V.ild1 aX0_sizeOfPicture_32 ?_
        refine V.imul aX0_sizeOfPicture_33 (by omega) ?_
        refine V.bipush aX0_sizeOfPicture_34 (by decide) (by decide) ?_
        refine V.icmp_ge aX0_sizeOfPicture_36 (tgt := 45) (by decide) (fun c36 => ?_) (fun c36 => ?_)
        · refine V.bipush aX0_sizeOfPicture_45 (by decide) (by decide) ?_
          refine V.iadd aX0_sizeOfPicture_47 (by omega) ?_
          refine V.iret aX0_sizeOfPicture_48 rfl (by decide) ?_
          have hk : k = 12 := by omega
          subst hk
          subst hr
          exact PI.of (by unfold pict pictR; first | rw [if_pos (by omega)] | rw [if_neg (by omega)])
        · refine V.iconst aX0_sizeOfPicture_39 (by decide) ?_
          refine V.ild1 aX0_sizeOfPicture_40 ?_
          refine V.imul aX0_sizeOfPicture_41 (by omega) ?_
          refine V.goto aX0_sizeOfPicture_42 (tgt := 47) (by decide) ?_
          refine V.iadd aX0_sizeOfPicture_47 (by omega) ?_
          refine V.iret aX0_sizeOfPicture_48 rfl (by decide) ?_
          have hk : k = 12 := by omega
          subst hk
          subst hr
          exact PI.of (by unfold pict pictR; first | rw [if_pos (by omega)] | rw [if_neg (by omega)])
      · refine V.ald0 aX0_sizeOfPicture_10 ?_
        refine V.ild2 aX0_sizeOfPicture_11 ?_
        refine V.iald aX0_sizeOfPicture_12 hv (by omega) (by omega) ?_
        refine V.ald0 aX0_sizeOfPicture_13 ?_
        refine V.ild2 aX0_sizeOfPicture_14 ?_
        refine V.iconst aX0_sizeOfPicture_15 (by decide) ?_
        refine V.isub aX0_sizeOfPicture_16 (by omega) ?_
        refine V.iald aX0_sizeOfPicture_17 hv (by omega) (by omega) ?_
        refine V.icmp_eq aX0_sizeOfPicture_18 (tgt := 24) (by decide) (fun c18 => ?_) (fun c18 => ?_)
        · refine V.inc2 aX0_sizeOfPicture_24 (by omega) ?_
          refine V.goto aX0_sizeOfPicture_27 (tgt := 4) (by decide) ?_
          refine ih (k + 1) _ (by omega) (by omega) (by omega) ?_
          rw [foldI_s (by omega), ← hr, pictF]
          split <;> omega
        · refine V.inc1 aX0_sizeOfPicture_21 (by omega) ?_
          refine V.inc2 aX0_sizeOfPicture_24 (by omega) ?_
          refine V.goto aX0_sizeOfPicture_27 (tgt := 4) (by decide) ?_
          refine ih (k + 1) _ (by omega) (by omega) (by omega) ?_
          rw [foldI_s (by omega), ← hr, pictF]
          split <;> omega
  refine V.iconst aX0_sizeOfPicture_0 (by decide) ?_
  refine V.ist1 aX0_sizeOfPicture_1 ?_
  refine V.iconst aX0_sizeOfPicture_2 (by decide) ?_
  refine V.ist2 aX0_sizeOfPicture_3 ?_
  exact loop _ 1 1 (Nat.lt_succ_self _) (by decide) (by decide) (foldI_0 (by decide)).symm
theorem ok_pics0 {a : Nat} {f : Int → Int} (hv : m a = iar 0 f) : Ok G kX0_sizeOfPicture 0 [.inr (some a)] sz m 0 0 (PI 4 sz m) := by
  refine Ok.body [some (.inr (some a)), none, none] rfl (Nat.le_of_ble_eq_true rfl) (by decide) ?_
  refine V.iconst aX0_sizeOfPicture_0 (by decide) ?_
  refine V.ist1 aX0_sizeOfPicture_1 ?_
  refine V.iconst aX0_sizeOfPicture_2 (by decide) ?_
  refine V.ist2 aX0_sizeOfPicture_3 ?_
  refine V.ild2 aX0_sizeOfPicture_4 ?_
  refine V.ald0 aX0_sizeOfPicture_5 ?_
  refine V.alen aX0_sizeOfPicture_6 hv (by omega) ?_
  refine V.icmp_ge aX0_sizeOfPicture_7 (tgt := 30) (by decide) (fun c7 => ?_) (fun c7 => ?_)
  · refine V.iconst aX0_sizeOfPicture_30 (by decide) ?_
    refine V.iconst aX0_sizeOfPicture_31 (by decide) ?_
    refine V.ild1 aX0_sizeOfPicture_32 ?_
    refine V.imul aX0_sizeOfPicture_33 (by omega) ?_
    refine V.bipush aX0_sizeOfPicture_34 (by decide) (by decide) ?_
    refine V.icmp_ge aX0_sizeOfPicture_36 (tgt := 45) (by decide) (fun c36 => ?_) (fun c36 => ?_)
    · exfalso
      omega
    · refine V.iconst aX0_sizeOfPicture_39 (by decide) ?_
      refine V.ild1 aX0_sizeOfPicture_40 ?_
      refine V.imul aX0_sizeOfPicture_41 (by omega) ?_
      refine V.goto aX0_sizeOfPicture_42 (tgt := 47) (by decide) ?_
      refine V.iadd aX0_sizeOfPicture_47 (by omega) ?_
      refine V.iret aX0_sizeOfPicture_48 rfl (by decide) ?_
      exact PI.of rfl
  · exfalso
    omega
theorem ok_sizes (hN : Num s) (hE : EntS s) (hR : EntsR Z t0 m s g) (hZ : B + 22 ≤ Z) : Ok G kX1_sizes 1 [.inr (some (B + 2))] sz (BM m B s g) 0 0 (PI (used s) sz (BM m B s g)) := by
  refine Ok.body [some (.inr (some (B + 2))), none, none, none] rfl (Nat.le_of_ble_eq_true rfl) (by decide) ?_
  obtain ⟨n0, n1, n2, n3, n4⟩ := id hN
  have loop : ∀ (n : Nat) (k r : Int) (x : Option AV), (s 3 - k).toNat < n → s 2 ≤ k → k ≤ s 3 → r = foldI (fun sum k => sum + sizeA s (atE s k)) 0 (s 2) k → V G kX1_sizes (rmM 1 0 0) (QfM G (PI (used s) sz (BM m B s g)) 0 0) 7 [some (.inr (some (B + 2))), some (.inl r), some (.inl k), x] [] sz (BM m B s g) 0 0 := by
    intro n
    induction n with
    | zero => intro k r x h; omega
    | succ n ih =>
      intro k r x hn hk1 hk2 hr
      have hb := used_b hE hk1 hk2
      rw [← hr] at hb
      refine V.ild2 aX1_sizes_7 ?_
      refine V.ald0 aX1_sizes_8 ?_
      refine call_X1_next aX1_sizes_9 gl_RX1_30 (ok_next hN) (BM_L) (Nat.le_of_ble_eq_true rfl) (by decide) (goI ?_)
      refine V.icmp_ge aX1_sizes_12 (tgt := 38) (by decide) (fun c12 => ?_) (fun c12 => ?_)
      · refine V.ild1 aX1_sizes_38 ?_
        refine V.iret aX1_sizes_39 rfl (by decide) ?_
        exact PI.of (by rw [hr, show k = s 3 by omega]; rfl)
      · obtain ⟨e, hg, he⟩ := hR (k - s 2) (by omega) (by omega)
        obtain ⟨am, va, ho⟩ := he.obj (B := B) (s := s) (g := g) hZ
        have qs := hE.sz hk1 (by omega)
        refine V.ald0 aX1_sizes_15 ?_
        refine V.ild2 aX1_sizes_16 ?_
        refine call_X1_at aX1_sizes_17 gl_RX1_34 (ok_at1 hg (by omega) (by omega) hN) (BM_L) (Nat.le_of_ble_eq_true rfl) (by decide) (goR ?_)
        refine V.ast3 aX1_sizes_20 ?_
        refine V.ald3 aX1_sizes_21 ?_
        refine V.ifnull aX1_sizes_22 (tgt := 32) (by decide) (fun c22 => ?_) (fun v22 c22 => ?_)
        · cases c22
        · refine V.ild1 aX1_sizes_25 ?_
          refine V.ald3 aX1_sizes_26 ?_
          refine V.getf aX1_sizes_27 fl_RX1_38 ho rfl ?_
          refine V.iadd aX1_sizes_30 (by omega) ?_
          refine V.ist1 aX1_sizes_31 ?_
          refine V.inc2 aX1_sizes_32 (by omega) ?_
          refine V.goto aX1_sizes_35 (tgt := 7) (by decide) ?_
          exact ih (k + 1) _ _ (by omega) (by omega) (by omega) (by rw [foldI_s (by omega), ← hr])
  refine V.iconst aX1_sizes_0 (by decide) ?_
  refine V.ist1 aX1_sizes_1 ?_
  refine V.ald0 aX1_sizes_2 ?_
  refine U.gfL aX1_sizes_3 fl_RX1_21 rfl ?_
  refine V.ist2 aX1_sizes_6 ?_
  exact loop _ _ _ _ (Nat.lt_succ_self _) (Int.le_refl _) (by omega) (foldI_0 (Int.le_refl _)).symm
theorem ok_entriesOf {p a e0 : Int} (hN : Num s) (hR : EntsR Z t0 m s g) (hZ : B + 22 ≤ Z) (ha : -5 ≤ a ∧ a ≤ 30000) (h1 : s 2 ≤ e0) (h2 : e0 ≤ s 3) : Ok G kX1_entriesOf 1 [.inr (some (B + 2)), .inl p, .inl a, .inl e0] sz (BM m B s g) 0 0 (PI (cntOf s p (max a (s 2)) e0) sz (BM m B s g)) := by
  refine Ok.body [some (.inr (some (B + 2))), some (.inl p), some (.inl a), some (.inl e0), none, none, none] rfl (Nat.le_of_ble_eq_true rfl) (by decide) ?_
  obtain ⟨n0, n1, n2, n3, n4⟩ := id hN
  obtain ⟨M, hM⟩ : ∃ M, max a (s 2) = M := ⟨_, rfl⟩
  have hm := le_max1 hM
  have loop : ∀ (n : Nat) (k r : Int) (x : Option AV), (e0 - k).toNat < n → M ≤ k → (0 ≤ r ∧ r ≤ k - M) → (k ≤ e0 ∨ k = M) → r = cntOf s p M k → V G kX1_entriesOf (rmM 1 0 0) (QfM G (PI (cntOf s p M e0) sz (BM m B s g)) 0 0) 13 [some (.inr (some (B + 2))), some (.inl p), some (.inl a), some (.inl e0), some (.inl r), some (.inl k), x] [] sz (BM m B s g) 0 0 := by
    intro n
    induction n with
    | zero => intro k r x h; omega
    | succ n ih =>
      intro k r x hn hk1 hrb hk2 hr
      have fs : M ≤ k → cntOf s p M (k + 1) = cntOf s p M k + b2 (ofE s k 0 = p) := fun h => foldI_s h
      have e0' := ofE0 (s := s) (k := k)
      refine V.ild5 aX1_entriesOf_13 ?_
      refine V.ild3 aX1_entriesOf_15 ?_
      refine V.icmp_ge aX1_entriesOf_16 (tgt := 50) (by decide) (fun c16 => ?_) (fun c16 => ?_)
      · refine V.ild4 aX1_entriesOf_50 ?_
        refine V.iret aX1_entriesOf_52 rfl (by decide) ?_
        exact PI.of (by
          by_cases q : k = e0
          · rw [hr, q]
          · rw [hr, show k = M by omega]; unfold cntOf; rw [foldI_0 (Int.le_refl _), foldI_0 (by omega)])
      · obtain ⟨e, hg, he⟩ := hR (k - s 2) (by omega) (by omega)
        obtain ⟨am, va, ho⟩ := he.obj (B := B) (s := s) (g := g) hZ
        refine V.ald0 aX1_entriesOf_19 ?_
        refine V.ild5 aX1_entriesOf_20 ?_
        refine call_X1_at aX1_entriesOf_22 gl_RX1_34 (ok_at1 hg (by omega) (by omega) hN) (BM_L) (Nat.le_of_ble_eq_true rfl) (by decide) (goR ?_)
        refine V.ast6 aX1_entriesOf_25 ?_
        refine V.ald6 aX1_entriesOf_27 ?_
        refine V.ifnull aX1_entriesOf_29 (tgt := 44) (by decide) (fun c29 => ?_) (fun v29 c29 => ?_)
        · cases c29
        · refine V.ald6 aX1_entriesOf_32 ?_
          refine V.getf aX1_entriesOf_34 fl_RX1_47 ho rfl ?_
          refine V.ild1 aX1_entriesOf_37 ?_
          refine V.icmp_ne aX1_entriesOf_38 (tgt := 44) (by decide) (fun c38 => ?_) (fun c38 => ?_)
          · refine V.inc5 aX1_entriesOf_44 (by omega) ?_
            refine V.goto aX1_entriesOf_47 (tgt := 13) (by decide) ?_
            refine ih (k + 1) _ _ (by omega) (by omega) (by omega) (by omega) ?_
            rw [fs hk1, ← hr]
            unfold b2
            split <;> omega
          · refine V.inc4 aX1_entriesOf_41 (by omega) ?_
            refine V.inc5 aX1_entriesOf_44 (by omega) ?_
            refine V.goto aX1_entriesOf_47 (tgt := 13) (by decide) ?_
            refine ih (k + 1) _ _ (by omega) (by omega) (by omega) (by omega) ?_
            rw [fs hk1, ← hr]
            unfold b2
            split <;> omega
  refine V.iconst aX1_entriesOf_0 (by decide) ?_
  refine V.ist4 aX1_entriesOf_1 ?_
  refine V.ild2 aX1_entriesOf_3 ?_
  refine V.ald0 aX1_entriesOf_4 ?_
  refine U.gfL aX1_entriesOf_5 fl_RX1_21 rfl ?_
  refine V.mmax aX1_entriesOf_8 gl_RX1_41 gi_RJ9 (by decide) ?_
  rw [hM]
  refine V.ist5 aX1_entriesOf_11 ?_
  exact loop _ _ _ _ (Nat.lt_succ_self _) (Int.le_refl _) (by omega) (Or.inr rfl) (foldI_0 (Int.le_refl _)).symm
end
