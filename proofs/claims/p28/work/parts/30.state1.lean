-- a state's readers
def PgS (s : Int → Int) : Prop := ∀ p, 0 ≤ p → p < 6 → 0 ≤ s (152 + p) ∧ s (152 + p) ≤ 30000
theorem Inv.P {B : Int} {s : Int → Int} (h : Inv B s) : PgS s := fun p h1 h2 => by
  have := h.num
  have := (h.page h1 h2).1
  omega
theorem least_or {P : Int → Prop} (a e : Int) : (∀ j, a ≤ j → j < e → ¬ P j) ∨ ∃ k, (a ≤ k ∧ k < e) ∧ P k ∧ ∀ j, a ≤ j → j < k → ¬ P j := by
  have go : ∀ (n : Nat) (b : Int), (e - b).toNat < n → a ≤ b → (∀ j, a ≤ j → j < b → ¬ P j) → (∀ j, a ≤ j → j < e → ¬ P j) ∨ ∃ k, (a ≤ k ∧ k < e) ∧ P k ∧ ∀ j, a ≤ j → j < k → ¬ P j := by
    intro n
    induction n with
    | zero => intro b h; omega
    | succ n ih =>
      intro b hn hb hno
      by_cases hbe : e ≤ b
      · exact Or.inl (fun j j0 j1 => hno j j0 (by omega))
      · by_cases hc : P b
        · exact Or.inr ⟨b, ⟨hb, by omega⟩, hc, hno⟩
        · refine ih (b + 1) (by omega) (by omega) (fun j j0 j1 => ?_)
          by_cases q : j = b
          · subst q; exact hc
          · exact hno j j0 (by omega)
  exact go _ a (Nat.lt_succ_self _) (Int.le_refl _) (fun j j0 j1 => by omega)
theorem firstDam_at {s : Int → Int} {p e k : Int} (hk : s 2 ≤ k ∧ k < e) (hc : needsP s p k e ∧ ofE s k 4 = 1) (h : ∀ j, s 2 ≤ j → j < k → ¬ (needsP s p j e ∧ ofE s j 4 = 1)) : firstDam s p e = k := by
  unfold firstDam
  rw [foldD_add (b := k) hk.1 (by omega)]
  have e1 : foldD (fun found k => if needsP s p k e ∧ ofE s k 4 = 1 then k else found) (-5) e k = k := by
    have := foldD_s (f := fun found k => if needsP s p k e ∧ ofE s k 4 = 1 then k else found) (z := -5) (b := e) (k := k + 1) (by omega)
    rw [show k + 1 - 1 = k by omega] at this
    rw [this]
    exact if_pos hc
  rw [e1]
  refine foldD_ind (f := fun found k => if needsP s p k e ∧ ofE s k 4 = 1 then k else found) (z := k) (b := k) (fun i x => s 2 ≤ i → x = k) (fun _ => rfl) (fun i x g0 g1 g2 => ?_) (s 2) hk.1 (Int.le_refl _)
  rw [if_neg (h (i - 1) g2 (by omega))]
  exact g1 (by omega)
theorem firstDam_none {s : Int → Int} {p e : Int} (h : ∀ j, s 2 ≤ j → j < e → ¬ (needsP s p j e ∧ ofE s j 4 = 1)) (he : s 2 ≤ e) : firstDam s p e = -5 := by
  unfold firstDam
  refine foldD_ind (f := fun found k => if needsP s p k e ∧ ofE s k 4 = 1 then k else found) (z := -5) (b := e) (fun i x => s 2 ≤ i → x = -5) (fun _ => rfl) (fun i x g0 g1 g2 => ?_) (s 2) he (Int.le_refl _)
  rw [if_neg (h (i - 1) g2 (by omega))]
  exact g1 (by omega)
theorem fd_fdam {s : Int → Int} {p e : Int} (h0 : 0 ≤ s 2) (he : s 2 ≤ e) : fdam s p (max (fN s p e) (s 2)) e = if firstDam s p e = -5 then e else firstDam s p e := by
  have hb := fN_b (p := p) he
  rw [show max (fN s p e) (s 2) = fN s p e by omega]
  rcases least_or (P := fun j => ofE s j 0 = p ∧ ofE s j 4 = 1) (fN s p e) e with h | ⟨k, hk, hc, h⟩
  · rw [fdam_none h, firstDam_none (fun j j0 j1 jc => h j ((fN_le ⟨j0, j1⟩ jc.1.2.1).mpr jc.1) j1 ⟨jc.1.2.1, jc.2⟩) he]
    rfl
  · have hn : needsP s p k e := (fN_le ⟨by omega, hk.2⟩ hc.1).mp hk.1
    rw [fdam_at hk hc h, firstDam_at ⟨by omega, hk.2⟩ ⟨hn, hc.2⟩ (fun j j0 j1 jc => h j ((fN_le ⟨j0, by omega⟩ jc.1.2.1).mpr jc.1) j1 ⟨jc.1.2.1, jc.2⟩)]
    rw [if_neg (by omega)]
theorem fold_z {f : Int → Int} {z a b : Int} (h : a ≤ b) : foldI (fun x k => x + f k) z a b = z + sumI f a b := by
  obtain ⟨n, hn⟩ : ∃ n : Nat, b = a + n := ⟨(b - a).toNat, by omega⟩
  subst hn
  clear h
  induction n with
  | zero => rw [foldI_0 (by omega), sumI_0 (by omega)]; omega
  | succ n ih => rw [show a + ((n + 1 : Nat) : Int) = (a + n) + 1 by omega, foldI_s (by omega), sumI_s (by omega), ih]; omega
theorem sumI_zero {f : Int → Int} {a b : Int} (h : ∀ k, a ≤ k → k < b → f k = 0) (hab : a ≤ b) : sumI f a b = 0 :=
  foldI_indB (f := fun x k => x + f k) (z := 0) (a := a) (e := b) (fun _ x => x = 0) rfl (fun k x g0 g1 g2 => by rw [g2, h k g0 g1]; rfl) b hab (Int.le_refl _)
theorem timeOf_eq {s : Int → Int} {p : Int} (hN : Num s) : timeOf s p = (if start s p (s 3) = -5 then 5 else 0) + timOf s p (fN s p (s 3)) (s 3) := by
  obtain ⟨n0, n1, n2, n3, n4⟩ := id hN
  have hb := fN_b (s := s) (p := p) (e := s 3) (by omega)
  unfold timeOf
  rw [fold_z (f := fun k => if needsP s p k (s 3) then timeA s (atE s k) else 0) (by omega), sumI_add (b := fN s p (s 3)) hb.1 _ hb.2, sumI_zero (f := fun k => if needsP s p k (s 3) then timeA s (atE s k) else 0) (fun k k0 k1 => by
    by_cases q : needsP s p k (s 3)
    · have := (fN_le ⟨k0, by omega⟩ q.2.1).mpr q
      omega
    · exact if_neg q) hb.1, Int.zero_add]
  congr 1
  exact sumI_congr (fun k k0 k1 => by
    by_cases q : ofE s k 0 = p
    · rw [if_pos q, if_pos ((fN_le ⟨by omega, k1⟩ q).mp k0)]
    · rw [if_neg q, if_neg (fun g => q g.2.1)])
theorem start_fN {s : Int → Int} {p e : Int} (h0 : 0 ≤ s 2) (he : s 2 ≤ e) : start s p e = -5 ↔ ¬ (fN s p e < e ∧ ofE s (fN s p e) 1 = 0) := by
  have hb := start_bb (p := p) he
  rcases fN_cases (p := p) he with ⟨h1, h2⟩ | ⟨h1, h2, h3⟩
  · constructor
    · intro _ q; omega
    · intro _
      rcases hb with h | ⟨a1, a2, a3, a4, a5⟩
      · exact h
      · exact absurd ⟨a2, a3, a5, Int.le_refl _⟩ (h2 _ a1 a2)
  · constructor
    · intro q r
      have := start_ge (s := s) (p := p) (e := e) (k := fN s p e) ⟨h1, r.1⟩ ⟨h2.2.1, r.2, h2.2.2.1⟩
      omega
    · intro q
      rcases hb with h | ⟨a1, a2, a3, a4, a5⟩
      · exact h
      · have hn : needsP s p (start s p e) e := ⟨a2, a3, a5, Int.le_refl _⟩
        have l1 := (fN_le ⟨a1, a2⟩ a3).mpr hn
        have l2 := h2.2.2.2
        have ee : fN s p e = start s p e := by omega
        rw [ee] at q
        exact absurd ⟨a2, a4⟩ q
section
variable {G : GX} {sz : Nat} {m : Mem} {B Z t0 : Nat} {s : Int → Int} {g : Int → Option Nat}
theorem ok_isN4 {k : Int} (hN : Num s) (hE : EntS s) (hR : EntsR Z t0 m s g) (hZ : B + 22 ≤ Z) (hP : PgS s) (h1 : s 2 ≤ k) (h2 : k < s 3) : Ok G kX4_isNeeded 2 [.inr (some B), .inl k] sz (BM m B s g) 0 0 (PI (b2 (isN s k)) sz (BM m B s g)) := by
  refine Ok.body [some (.inr (some B)), some (.inl k), none] rfl (Nat.le_of_ble_eq_true rfl) (by decide) ?_
  obtain ⟨n0, n1, n2, n3, n4⟩ := id hN
  obtain ⟨e, hg, he⟩ := hR (k - s 2) (by omega) (by omega)
  obtain ⟨am, va, ho⟩ := he.obj (B := B) (s := s) (g := g) hZ
  have e0' := ofE0 (s := s) (k := k)
  have hp := hE.p h1 h2
  have hq := hP _ hp.1 hp.2
  have l3 := fN_le (s := s) (p := ofE s k 0) (e := s 3) (k := k) ⟨h1, h2⟩ rfl
  have l4 := fun h : k < s 4 => fN_le (s := s) (p := ofE s k 0) (e := s 4) (k := k) ⟨h1, h⟩ rfl
  refine V.ald0 aX4_isNeeded_0 ?_
  refine U.gfS aX4_isNeeded_1 fl_RX4_20 rfl ?_
  refine V.ild1 aX4_isNeeded_4 ?_
  refine call_X1_at aX4_isNeeded_5 gl_RX4_57 (ok_at1 hg (by omega) (by omega) hN) (BM_L) (Nat.le_of_ble_eq_true rfl) (by decide) (goR ?_)
  refine V.ast2 aX4_isNeeded_8 ?_
  refine V.ald2 aX4_isNeeded_9 ?_
  refine V.ifnonnull aX4_isNeeded_10 (tgt := 15) (by decide) (fun v10 c10 => ?_) (fun c10 => ?_)
  · refine V.ild1 aX4_isNeeded_15 ?_
    refine V.ald0 aX4_isNeeded_16 ?_
    refine V.ald2 aX4_isNeeded_17 ?_
    refine V.getf aX4_isNeeded_18 fl_RX4_61 ho rfl ?_
    rw [← e0']
    refine V.ald0 aX4_isNeeded_21 ?_
    refine U.gfS aX4_isNeeded_22 fl_RX4_20 rfl ?_
    refine call_X1_next aX4_isNeeded_25 gl_RX4_69 (ok_next hN) (BM_L) (Nat.le_of_ble_eq_true rfl) (by decide) (goI ?_)
    refine call_X4_firstNeeded aX4_isNeeded_28 gl_RX4_73 (ok_firstN hN hE hR hZ (by omega) (by omega) (by omega) (by omega)) (BM_S) (Nat.le_of_ble_eq_true rfl) (by decide) (goI ?_)
    refine V.icmp_ge aX4_isNeeded_31 (tgt := 64) (by decide) (fun c31 => ?_) (fun c31 => ?_)
    · refine V.iconst aX4_isNeeded_64 (by decide) ?_
      refine V.goto aX4_isNeeded_65 (tgt := 69) (by decide) ?_
      refine V.zret aX4_isNeeded_69 rfl (by first | decide | exact b2_01 | omega) (by decide) ?_
      refine PI.of ?_
      first
        | exact (b2_t (Or.inl (l3.mp (by omega)))).symm
        | exact (b2_t (Or.inr ((l4 (by omega)).mp (by omega)))).symm
        | exact (b2_f (fun h => h.elim (fun a => by have := l3.mpr a; omega) (fun a => by have := a.1; have := (l4 (by omega)).mpr a; omega))).symm
    · refine V.ild1 aX4_isNeeded_34 ?_
      refine V.ald0 aX4_isNeeded_35 ?_
      refine U.gfS aX4_isNeeded_36 fl_RX4_20 rfl ?_
      refine U.gfL aX4_isNeeded_39 fl_RX4_76 rfl ?_
      refine V.icmp_ge aX4_isNeeded_42 (tgt := 68) (by decide) (fun c42 => ?_) (fun c42 => ?_)
      · refine V.iconst aX4_isNeeded_68 (by decide) ?_
        refine V.zret aX4_isNeeded_69 rfl (by first | decide | exact b2_01 | omega) (by decide) ?_
        refine PI.of ?_
        first
          | exact (b2_t (Or.inl (l3.mp (by omega)))).symm
          | exact (b2_t (Or.inr ((l4 (by omega)).mp (by omega)))).symm
          | exact (b2_f (fun h => h.elim (fun a => by have := l3.mpr a; omega) (fun a => by have := a.1; have := (l4 (by omega)).mpr a; omega))).symm
      · refine V.ild1 aX4_isNeeded_45 ?_
        refine V.ald0 aX4_isNeeded_46 ?_
        refine V.ald2 aX4_isNeeded_47 ?_
        refine V.getf aX4_isNeeded_48 fl_RX4_61 ho rfl ?_
        rw [← e0']
        refine V.ald0 aX4_isNeeded_51 ?_
        refine U.gfS aX4_isNeeded_52 fl_RX4_20 rfl ?_
        refine U.gfL aX4_isNeeded_55 fl_RX4_76 rfl ?_
        refine call_X4_firstNeeded aX4_isNeeded_58 gl_RX4_73 (ok_firstN hN hE hR hZ (by omega) (by omega) (by omega) (by omega)) (BM_S) (Nat.le_of_ble_eq_true rfl) (by decide) (goI ?_)
        refine V.icmp_lt aX4_isNeeded_61 (tgt := 68) (by decide) (fun c61 => ?_) (fun c61 => ?_)
        · refine V.iconst aX4_isNeeded_68 (by decide) ?_
          refine V.zret aX4_isNeeded_69 rfl (by first | decide | exact b2_01 | omega) (by decide) ?_
          refine PI.of ?_
          first
            | exact (b2_t (Or.inl (l3.mp (by omega)))).symm
            | exact (b2_t (Or.inr ((l4 (by omega)).mp (by omega)))).symm
            | exact (b2_f (fun h => h.elim (fun a => by have := l3.mpr a; omega) (fun a => by have := a.1; have := (l4 (by omega)).mpr a; omega))).symm
        · refine V.iconst aX4_isNeeded_64 (by decide) ?_
          refine V.goto aX4_isNeeded_65 (tgt := 69) (by decide) ?_
          refine V.zret aX4_isNeeded_69 rfl (by first | decide | exact b2_01 | omega) (by decide) ?_
          refine PI.of ?_
          first
            | exact (b2_t (Or.inl (l3.mp (by omega)))).symm
            | exact (b2_t (Or.inr ((l4 (by omega)).mp (by omega)))).symm
            | exact (b2_f (fun h => h.elim (fun a => by have := l3.mpr a; omega) (fun a => by have := a.1; have := (l4 (by omega)).mpr a; omega))).symm
  · cases c10
theorem ok_needed4 (hN : Num s) (hE : EntS s) (hR : EntsR Z t0 m s g) (hZ : B + 22 ≤ Z) (hP : PgS s) : Ok G kX4_neededEntries 3 [.inr (some B)] sz (BM m B s g) 0 0 (PI (neededMany s) sz (BM m B s g)) := by
  refine Ok.body [some (.inr (some B)), none, none] rfl (Nat.le_of_ble_eq_true rfl) (by decide) ?_
  obtain ⟨n0, n1, n2, n3, n4⟩ := id hN
  have loop : ∀ (n : Nat) (k r : Int), (s 3 - k).toNat < n → s 2 ≤ k → k ≤ s 3 → (0 ≤ r ∧ r ≤ k - s 2) → r = foldI (fun n k => n + b2 (isN s k)) 0 (s 2) k → V G kX4_neededEntries (rmM 3 0 0) (QfM G (PI (neededMany s) sz (BM m B s g)) 0 0) 10 [some (.inr (some B)), some (.inl r), some (.inl k)] [] sz (BM m B s g) 0 0 := by
    intro n
    induction n with
    | zero => intro k r h; omega
    | succ n ih =>
      intro k r hn hk1 hk2 hb hr
      refine V.ild2 aX4_neededEntries_10 ?_
      refine V.ald0 aX4_neededEntries_11 ?_
      refine U.gfS aX4_neededEntries_12 fl_RX4_20 rfl ?_
      refine call_X1_next aX4_neededEntries_15 gl_RX4_69 (ok_next hN) (BM_L) (Nat.le_of_ble_eq_true rfl) (by decide) (goI ?_)
      refine V.icmp_ge aX4_neededEntries_18 (tgt := 38) (by decide) (fun c18 => ?_) (fun c18 => ?_)
      · refine V.ild1 aX4_neededEntries_38 ?_
        refine V.iret aX4_neededEntries_39 rfl (by decide) ?_
        exact PI.of (by rw [hr, show k = s 3 by omega]; rfl)
      · refine V.ald0 aX4_neededEntries_21 ?_
        refine V.ild2 aX4_neededEntries_22 ?_
        refine call_X4_isNeeded aX4_neededEntries_23 gl_RX4_79 (ok_isN4 hN hE hR hZ hP (by omega) (by omega)) (BM_S) (Nat.le_of_ble_eq_true rfl) (by decide) (goI ?_)
        refine V.ifb_eq aX4_neededEntries_26 (tgt := 32) (by decide) (fun c26 => ?_) (fun c26 => ?_)
        · refine V.inc2 aX4_neededEntries_32 (by omega) ?_
          refine V.goto aX4_neededEntries_35 (tgt := 10) (by decide) ?_
          refine ih (k + 1) _ (by omega) (by omega) (by omega) (by omega) ?_
          rw [foldI_s (by omega), ← hr]
          first | rw [b2_t c26] | (rw [b2_f c26]; omega)
        · refine V.inc1 aX4_neededEntries_29 (by omega) ?_
          refine V.inc2 aX4_neededEntries_32 (by omega) ?_
          refine V.goto aX4_neededEntries_35 (tgt := 10) (by decide) ?_
          refine ih (k + 1) _ (by omega) (by omega) (by omega) (by omega) ?_
          rw [foldI_s (by omega), ← hr]
          first | rw [b2_t c26] | (rw [b2_f c26]; omega)
  refine V.iconst aX4_neededEntries_0 (by decide) ?_
  refine V.ist1 aX4_neededEntries_1 ?_
  refine V.ald0 aX4_neededEntries_2 ?_
  refine U.gfS aX4_neededEntries_3 fl_RX4_20 rfl ?_
  refine U.gfL aX4_neededEntries_6 fl_RX4_45 rfl ?_
  refine V.ist2 aX4_neededEntries_9 ?_
  exact loop _ _ _ (Nat.lt_succ_self _) (Int.le_refl _) (by omega) (by omega) (foldI_0 (Int.le_refl _)).symm
theorem ok_time4 {p : Int} (hN : Num s) (hE : EntS s) (hR : EntsR Z t0 m s g) (hZ : B + 22 ≤ Z) (hP : PgS s) (hp : 0 ≤ p ∧ p < 6) : Ok G kX4_timeToRestore 2 [.inr (some B), .inl p] sz (BM m B s g) 0 0 (PI (timeOf s p) sz (BM m B s g)) := by
  refine Ok.body [some (.inr (some B)), some (.inl p), none, none, none, none] rfl (Nat.le_of_ble_eq_true rfl) (by decide) ?_
  obtain ⟨n0, n1, n2, n3, n4⟩ := id hN
  have hq := hP p hp.1 hp.2
  have hb := fN_b (s := s) (p := p) (e := s 3) (by omega)
  have hs := start_fN (s := s) (p := p) (e := s 3) n0 (by omega)
  have ht := timeOf_eq (p := p) hN
  have htb := tim_b (s := s) (p := p) (a := fN s p (s 3)) hE (by omega) (k := s 3) (by omega) (Int.le_refl _)
  have hm : max (fN s p (s 3)) (s 2) = fN s p (s 3) := by omega
  by_cases hf : fN s p (s 3) < s 3
  · obtain ⟨e, hg, he⟩ := hR (fN s p (s 3) - s 2) (by omega) (by omega)
    obtain ⟨am, va, ho⟩ := he.obj (B := B) (s := s) (g := g) hZ
    have e1' : ofE s (fN s p (s 3)) 1 = s (170 + 17 * (fN s p (s 3) - s 2) + 1) := rfl
    refine V.ald0 aX4_timeToRestore_0 ?_
    refine U.gfS aX4_timeToRestore_1 fl_RX4_20 rfl ?_
    refine call_X1_next aX4_timeToRestore_4 gl_RX4_69 (ok_next hN) (BM_L) (Nat.le_of_ble_eq_true rfl) (by decide) (goI ?_)
    refine V.ist2 aX4_timeToRestore_7 ?_
    refine V.ald0 aX4_timeToRestore_8 ?_
    refine V.ild1 aX4_timeToRestore_9 ?_
    refine V.ild2 aX4_timeToRestore_10 ?_
    refine call_X4_firstNeeded aX4_timeToRestore_11 gl_RX4_73 (ok_firstN hN hE hR hZ (by omega) (by omega) (by omega) (by omega)) (BM_S) (Nat.le_of_ble_eq_true rfl) (by decide) (goI ?_)
    refine V.ist3 aX4_timeToRestore_14 ?_
    refine V.ald0 aX4_timeToRestore_15 ?_
    refine U.gfS aX4_timeToRestore_16 fl_RX4_20 rfl ?_
    refine V.ild3 aX4_timeToRestore_19 ?_
    refine call_X1_at aX4_timeToRestore_20 gl_RX4_57 (ok_at1 hg (by omega) (by omega) hN) (BM_L) (Nat.le_of_ble_eq_true rfl) (by decide) (goR ?_)
    refine V.ast4 aX4_timeToRestore_23 ?_
    refine V.ald4 aX4_timeToRestore_25 ?_
    refine V.ifnull aX4_timeToRestore_27 (tgt := 42) (by decide) (fun c27 => ?_) (fun v27 c27 => ?_)
    · cases c27
    · refine V.ald4 aX4_timeToRestore_30 ?_
      refine V.getf aX4_timeToRestore_32 fl_RX4_66 ho rfl ?_
      refine V.if_ne aX4_timeToRestore_35 (tgt := 42) (by decide) (fun c35 => ?_) (fun c35 => ?_)
      · refine V.iconst aX4_timeToRestore_42 (by decide) ?_
        refine V.ist5 aX4_timeToRestore_43 ?_
        refine V.ild5 aX4_timeToRestore_45 ?_
        refine V.ald0 aX4_timeToRestore_47 ?_
        refine U.gfS aX4_timeToRestore_48 fl_RX4_20 rfl ?_
        refine V.ild1 aX4_timeToRestore_51 ?_
        refine V.ild3 aX4_timeToRestore_52 ?_
        refine V.ild2 aX4_timeToRestore_53 ?_
        refine call_X1_timesOf aX4_timeToRestore_54 gl_RX4_83 (ok_timesOf hN hE hR hZ (by omega) (by omega) (by omega)) (BM_L) (Nat.le_of_ble_eq_true rfl) (by decide) (goI ?_)
        rw [hm]
        refine V.iadd aX4_timeToRestore_57 (by omega) ?_
        refine V.iret aX4_timeToRestore_58 rfl (by decide) ?_
        refine PI.of ?_
        rw [ht]
        first | (rw [if_neg (by omega)]; done) | rw [if_pos (by omega)]
      · refine V.iconst aX4_timeToRestore_38 (by decide) ?_
        refine V.goto aX4_timeToRestore_39 (tgt := 43) (by decide) ?_
        refine V.ist5 aX4_timeToRestore_43 ?_
        refine V.ild5 aX4_timeToRestore_45 ?_
        refine V.ald0 aX4_timeToRestore_47 ?_
        refine U.gfS aX4_timeToRestore_48 fl_RX4_20 rfl ?_
        refine V.ild1 aX4_timeToRestore_51 ?_
        refine V.ild3 aX4_timeToRestore_52 ?_
        refine V.ild2 aX4_timeToRestore_53 ?_
        refine call_X1_timesOf aX4_timeToRestore_54 gl_RX4_83 (ok_timesOf hN hE hR hZ (by omega) (by omega) (by omega)) (BM_L) (Nat.le_of_ble_eq_true rfl) (by decide) (goI ?_)
        rw [hm]
        refine V.iadd aX4_timeToRestore_57 (by omega) ?_
        refine V.iret aX4_timeToRestore_58 rfl (by decide) ?_
        refine PI.of ?_
        rw [ht]
        first | (rw [if_neg (by omega)]; done) | rw [if_pos (by omega)]
  · have hf2 : ¬ (s 2 ≤ fN s p (s 3) ∧ fN s p (s 3) < s 3) := by omega
    refine V.ald0 aX4_timeToRestore_0 ?_
    refine U.gfS aX4_timeToRestore_1 fl_RX4_20 rfl ?_
    refine call_X1_next aX4_timeToRestore_4 gl_RX4_69 (ok_next hN) (BM_L) (Nat.le_of_ble_eq_true rfl) (by decide) (goI ?_)
    refine V.ist2 aX4_timeToRestore_7 ?_
    refine V.ald0 aX4_timeToRestore_8 ?_
    refine V.ild1 aX4_timeToRestore_9 ?_
    refine V.ild2 aX4_timeToRestore_10 ?_
    refine call_X4_firstNeeded aX4_timeToRestore_11 gl_RX4_73 (ok_firstN hN hE hR hZ (by omega) (by omega) (by omega) (by omega)) (BM_S) (Nat.le_of_ble_eq_true rfl) (by decide) (goI ?_)
    refine V.ist3 aX4_timeToRestore_14 ?_
    refine V.ald0 aX4_timeToRestore_15 ?_
    refine U.gfS aX4_timeToRestore_16 fl_RX4_20 rfl ?_
    refine V.ild3 aX4_timeToRestore_19 ?_
    refine call_X1_at aX4_timeToRestore_20 gl_RX4_57 (ok_at0 (by omega) (by omega) hN) (BM_L) (Nat.le_of_ble_eq_true rfl) (by decide) (goR ?_)
    refine V.ast4 aX4_timeToRestore_23 ?_
    refine V.ald4 aX4_timeToRestore_25 ?_
    refine V.ifnull aX4_timeToRestore_27 (tgt := 42) (by decide) (fun c27 => ?_) (fun v27 c27 => ?_)
    · refine V.iconst aX4_timeToRestore_42 (by decide) ?_
      refine V.ist5 aX4_timeToRestore_43 ?_
      refine V.ild5 aX4_timeToRestore_45 ?_
      refine V.ald0 aX4_timeToRestore_47 ?_
      refine U.gfS aX4_timeToRestore_48 fl_RX4_20 rfl ?_
      refine V.ild1 aX4_timeToRestore_51 ?_
      refine V.ild3 aX4_timeToRestore_52 ?_
      refine V.ild2 aX4_timeToRestore_53 ?_
      refine call_X1_timesOf aX4_timeToRestore_54 gl_RX4_83 (ok_timesOf hN hE hR hZ (by omega) (by omega) (by omega)) (BM_L) (Nat.le_of_ble_eq_true rfl) (by decide) (goI ?_)
      rw [hm]
      refine V.iadd aX4_timeToRestore_57 (by omega) ?_
      refine V.iret aX4_timeToRestore_58 rfl (by decide) ?_
      refine PI.of ?_
      rw [ht, if_pos (by omega)]
    · cases c27
theorem ok_timeAll (hN : Num s) (hE : EntS s) (hR : EntsR Z t0 m s g) (hZ : B + 22 ≤ Z) (hP : PgS s) : Ok G kX4_timeToRestoreAll 3 [.inr (some B)] sz (BM m B s g) 0 0 (PI (ofPages s 7) sz (BM m B s g)) := by
  refine Ok.body [some (.inr (some B)), none, none] rfl (Nat.le_of_ble_eq_true rfl) (by decide) ?_
  obtain ⟨n0, n1, n2, n3, n4⟩ := id hN
  have loop : ∀ (n : Nat) (k r : Int), (6 - k).toNat < n → 0 ≤ k → k ≤ 6 → (0 ≤ r ∧ r ≤ 2705 * k) → r = foldI (fun sum p => sum + (if (7 : Int) = 7 then timeOf s p else s (158 + p))) 0 0 k → V G kX4_timeToRestoreAll (rmM 3 0 0) (QfM G (PI (ofPages s 7) sz (BM m B s g)) 0 0) 4 [some (.inr (some B)), some (.inl r), some (.inl k)] [] sz (BM m B s g) 0 0 := by
    intro n
    induction n with
    | zero => intro k r h; omega
    | succ n ih =>
      intro k r hn hk1 hk2 hb hr
      have ht := timeOf_bb hN hE (p := k)
      refine V.ild2 aX4_timeToRestoreAll_4 ?_
      refine V.bipush aX4_timeToRestoreAll_5 (by decide) (by decide) ?_
      refine V.icmp_ge aX4_timeToRestoreAll_7 (tgt := 24) (by decide) (fun c7 => ?_) (fun c7 => ?_)
      · refine V.ild1 aX4_timeToRestoreAll_24 ?_
        refine V.iret aX4_timeToRestoreAll_25 rfl (by decide) ?_
        exact PI.of (by rw [hr, show k = 6 by omega]; rfl)
      · refine V.ild1 aX4_timeToRestoreAll_10 ?_
        refine V.ald0 aX4_timeToRestoreAll_11 ?_
        refine V.ild2 aX4_timeToRestoreAll_12 ?_
        refine call_X4_timeToRestore aX4_timeToRestoreAll_13 gl_RX4_87 (ok_time4 hN hE hR hZ hP (by omega)) (BM_S) (Nat.le_of_ble_eq_true rfl) (by decide) (goI ?_)
        refine V.iadd aX4_timeToRestoreAll_16 (by omega) ?_
        refine V.ist1 aX4_timeToRestoreAll_17 ?_
        refine V.inc2 aX4_timeToRestoreAll_18 (by omega) ?_
        refine V.goto aX4_timeToRestoreAll_21 (tgt := 4) (by decide) ?_
        refine ih (k + 1) _ (by omega) (by omega) (by omega) (by omega) ?_
        rw [foldI_s (by omega), ← hr, if_pos rfl]
  refine V.iconst aX4_timeToRestoreAll_0 (by decide) ?_
  refine V.ist1 aX4_timeToRestoreAll_1 ?_
  refine V.iconst aX4_timeToRestoreAll_2 (by decide) ?_
  refine V.ist2 aX4_timeToRestoreAll_3 ?_
  exact loop _ _ _ (Nat.lt_succ_self _) (by decide) (by decide) (by decide) (foldI_0 (Int.le_refl _)).symm
theorem ok_doubtP (hD : DoubS s) : Ok G kX4_doubtfulPages 0 [.inr (some B)] sz (BM m B s g) 0 0 (PI (ofPages s 8) sz (BM m B s g)) := by
  refine Ok.body [some (.inr (some B)), none, none] rfl (Nat.le_of_ble_eq_true rfl) (by decide) ?_
  have loop : ∀ (n : Nat) (k r : Int), (6 - k).toNat < n → 0 ≤ k → k ≤ 6 → (0 ≤ r ∧ r ≤ k) → r = foldI (fun sum p => sum + (if (8 : Int) = 7 then timeOf s p else s (158 + p))) 0 0 k → V G kX4_doubtfulPages (rmM 0 0 0) (QfM G (PI (ofPages s 8) sz (BM m B s g)) 0 0) 4 [some (.inr (some B)), some (.inl r), some (.inl k)] [] sz (BM m B s g) 0 0 := by
    intro n
    induction n with
    | zero => intro k r h; omega
    | succ n ih =>
      intro k r hn hk1 hk2 hb hr
      refine V.ild2 aX4_doubtfulPages_4 ?_
      refine V.bipush aX4_doubtfulPages_5 (by decide) (by decide) ?_
      refine V.icmp_ge aX4_doubtfulPages_7 (tgt := 31) (by decide) (fun c7 => ?_) (fun c7 => ?_)
      · refine V.ild1 aX4_doubtfulPages_31 ?_
        refine V.iret aX4_doubtfulPages_32 rfl (by decide) ?_
        exact PI.of (by rw [hr, show k = 6 by omega]; rfl)
      · have hd := hD k hk1 (by omega)
        refine V.ald0 aX4_doubtfulPages_10 ?_
        refine U.gfS aX4_doubtfulPages_11 fl_RX4_11 rfl ?_
        refine V.ild2 aX4_doubtfulPages_14 ?_
        refine U.aaP aX4_doubtfulPages_15 (by omega) ?_
        refine U.gfP aX4_doubtfulPages_16 fl_RX4_91 (by omega) rfl ?_
        refine V.if_eq aX4_doubtfulPages_19 (tgt := 25) (by decide) (fun c19 => ?_) (fun c19 => ?_)
        · refine V.inc2 aX4_doubtfulPages_25 (by omega) ?_
          refine V.goto aX4_doubtfulPages_28 (tgt := 4) (by decide) ?_
          refine ih (k + 1) _ (by omega) (by omega) (by omega) (by omega) ?_
          rw [foldI_s (by omega), ← hr, if_neg (by decide)]
          omega
        · refine V.inc1 aX4_doubtfulPages_22 (by omega) ?_
          refine V.inc2 aX4_doubtfulPages_25 (by omega) ?_
          refine V.goto aX4_doubtfulPages_28 (tgt := 4) (by decide) ?_
          refine ih (k + 1) _ (by omega) (by omega) (by omega) (by omega) ?_
          rw [foldI_s (by omega), ← hr, if_neg (by decide)]
          omega
  refine V.iconst aX4_doubtfulPages_0 (by decide) ?_
  refine V.ist1 aX4_doubtfulPages_1 ?_
  refine V.iconst aX4_doubtfulPages_2 (by decide) ?_
  refine V.ist2 aX4_doubtfulPages_3 ?_
  exact loop _ _ _ (Nat.lt_succ_self _) (by decide) (by decide) (by decide) (foldI_0 (Int.le_refl _)).symm
theorem ok_needsD {p : Int} (hN : Num s) (hE : EntS s) (hR : EntsR Z t0 m s g) (hZ : B + 22 ≤ Z) (hP : PgS s) (hp : 0 ≤ p ∧ p < 6) : Ok G kX4_needsDamaged 2 [.inr (some B), .inl p] sz (BM m B s g) 0 0 (PI (b2 (firstDam s p (s 3) ≠ -5)) sz (BM m B s g)) := by
  refine Ok.body [some (.inr (some B)), some (.inl p), none] rfl (Nat.le_of_ble_eq_true rfl) (by decide) ?_
  obtain ⟨n0, n1, n2, n3, n4⟩ := id hN
  have hq := hP p hp.1 hp.2
  have hb := fN_b (s := s) (p := p) (e := s 3) (by omega)
  have hd := fd_fdam (s := s) (p := p) (e := s 3) n0 (by omega)
  have hf := firstDam_b (s := s) (p := p) (e := s 3) (by omega)
  refine V.ald0 aX4_needsDamaged_0 ?_
  refine U.gfS aX4_needsDamaged_1 fl_RX4_20 rfl ?_
  refine call_X1_next aX4_needsDamaged_4 gl_RX4_69 (ok_next hN) (BM_L) (Nat.le_of_ble_eq_true rfl) (by decide) (goI ?_)
  refine V.ist2 aX4_needsDamaged_7 ?_
  refine V.ald0 aX4_needsDamaged_8 ?_
  refine U.gfS aX4_needsDamaged_9 fl_RX4_20 rfl ?_
  refine V.ild1 aX4_needsDamaged_12 ?_
  refine V.ald0 aX4_needsDamaged_13 ?_
  refine V.ild1 aX4_needsDamaged_14 ?_
  refine V.ild2 aX4_needsDamaged_15 ?_
  refine call_X4_firstNeeded aX4_needsDamaged_16 gl_RX4_73 (ok_firstN hN hE hR hZ (by omega) (by omega) (by omega) (by omega)) (BM_S) (Nat.le_of_ble_eq_true rfl) (by decide) (goI ?_)
  refine V.ild2 aX4_needsDamaged_19 ?_
  refine call_X1_firstDamaged aX4_needsDamaged_20 gl_RX4_95 (ok_fdam hN hE hR hZ (by omega) (by omega) (by omega)) (BM_L) (Nat.le_of_ble_eq_true rfl) (by decide) (goI ?_)
  rw [hd]
  refine V.ild2 aX4_needsDamaged_23 ?_
  refine V.icmp_ge aX4_needsDamaged_24 (tgt := 31) (by decide) (fun c24 => ?_) (fun c24 => ?_)
  · refine V.iconst aX4_needsDamaged_31 (by decide) ?_
    refine V.zret aX4_needsDamaged_32 rfl (by first | decide | exact b2_01 | omega) (by decide) ?_
    refine PI.of ?_
    by_cases q : firstDam s p (s 3) = -5
    · rw [if_pos q] at c24; first | exact (b2_f (fun g => g q)).symm | (exfalso; omega)
    · rw [if_neg q] at c24; first | exact (b2_t q).symm | (exfalso; omega)
  · refine V.iconst aX4_needsDamaged_27 (by decide) ?_
    refine V.goto aX4_needsDamaged_28 (tgt := 32) (by decide) ?_
    refine V.zret aX4_needsDamaged_32 rfl (by first | decide | exact b2_01 | omega) (by decide) ?_
    refine PI.of ?_
    by_cases q : firstDam s p (s 3) = -5
    · rw [if_pos q] at c24; first | exact (b2_f (fun g => g q)).symm | (exfalso; omega)
    · rw [if_neg q] at c24; first | exact (b2_t q).symm | (exfalso; omega)
theorem ok_endS {p : Int} (hN : Num s) (hE : EntS s) (hR : EntsR Z t0 m s g) (hZ : B + 22 ≤ Z) (hP : PgS s) (hp : 0 ≤ p ∧ p < 6) : Ok G kX4_endOfSound 2 [.inr (some B), .inl p] sz (BM m B s g) 0 0 (PI (sndE s p 200 (s 3)) sz (BM m B s g)) := by
  refine Ok.body [some (.inr (some B)), some (.inl p), none, none, none] rfl (Nat.le_of_ble_eq_true rfl) (by decide) ?_
  obtain ⟨n0, n1, n2, n3, n4⟩ := id hN
  have hq := hP p hp.1 hp.2
  have loop : ∀ (n f : Nat) (i e : Int) (x : Option AV), (100 - i).toNat < n → 0 ≤ i → i ≤ 100 → (f : Int) = 200 - i → s 2 ≤ e → e ≤ s 3 - i → sndE s p 200 (s 3) = sndE s p f e → V G kX4_endOfSound (rmM 2 0 0) (QfM G (PI (sndE s p 200 (s 3)) sz (BM m B s g)) 0 0) 10 [some (.inr (some B)), some (.inl p), some (.inl e), some (.inl i), x] [] sz (BM m B s g) 0 0 := by
    intro n
    induction n with
    | zero => intro f i e x h; omega
    | succ n ih =>
      intro f i e x hn hi1 hi2 hf he1 he2 hr
      obtain ⟨f', rfl⟩ : ∃ f', f = f' + 1 := ⟨f - 1, by omega⟩
      have hb := fN_b (s := s) (p := p) (e := e) he1
      have hd := fd_fdam (s := s) (p := p) (e := e) n0 he1
      have hfd := firstDam_b (s := s) (p := p) (e := e) he1
      refine V.ild3 aX4_endOfSound_10 ?_
      refine V.bipush aX4_endOfSound_11 (by decide) (by decide) ?_
      refine V.icmp_ge aX4_endOfSound_13 (tgt := 50) (by decide) (fun c13 => ?_) (fun c13 => ?_)
      · refine V.ild2 aX4_endOfSound_50 ?_
        refine V.iret aX4_endOfSound_51 rfl (by decide) ?_
        refine PI.of ?_
        have ee : e = s 2 := by omega
        rw [hr, sndE, if_pos (by rw [ee]; exact foldD_0 (Int.le_refl _))]
      · refine V.ald0 aX4_endOfSound_16 ?_
        refine U.gfS aX4_endOfSound_17 fl_RX4_20 rfl ?_
        refine V.ild1 aX4_endOfSound_20 ?_
        refine V.ald0 aX4_endOfSound_21 ?_
        refine V.ild1 aX4_endOfSound_22 ?_
        refine V.ild2 aX4_endOfSound_23 ?_
        refine call_X4_firstNeeded aX4_endOfSound_24 gl_RX4_73 (ok_firstN hN hE hR hZ (by omega) (by omega) (by omega) (by omega)) (BM_S) (Nat.le_of_ble_eq_true rfl) (by decide) (goI ?_)
        refine V.ild2 aX4_endOfSound_27 ?_
        refine call_X1_firstDamaged aX4_endOfSound_28 gl_RX4_95 (ok_fdam hN hE hR hZ (by omega) (by omega) (by omega)) (BM_L) (Nat.le_of_ble_eq_true rfl) (by decide) (goI ?_)
        rw [hd]
        refine V.ist4 aX4_endOfSound_31 ?_
        refine V.ild4 aX4_endOfSound_33 ?_
        refine V.ild2 aX4_endOfSound_35 ?_
        refine V.icmp_ne aX4_endOfSound_36 (tgt := 41) (by decide) (fun c36 => ?_) (fun c36 => ?_)
        · refine V.ild4 aX4_endOfSound_41 ?_
          refine V.ist2 aX4_endOfSound_43 ?_
          refine V.inc3 aX4_endOfSound_44 (by omega) ?_
          refine V.goto aX4_endOfSound_47 (tgt := 10) (by decide) ?_
          by_cases q : firstDam s p e = -5
          · rw [if_pos q] at c36; omega
          · rw [if_neg q]
            refine ih f' (i + 1) _ _ (by omega) (by omega) (by omega) (by omega) (by omega) (by omega) ?_
            rw [hr, sndE, if_neg q]
        · refine V.ild2 aX4_endOfSound_39 ?_
          refine V.iret aX4_endOfSound_40 rfl (by decide) ?_
          refine PI.of ?_
          rw [hr]
          unfold sndE
          by_cases q : firstDam s p e = -5
          · rw [if_pos q]
          · rw [if_neg q] at c36; omega
  refine V.ald0 aX4_endOfSound_0 ?_
  refine U.gfS aX4_endOfSound_1 fl_RX4_20 rfl ?_
  refine call_X1_next aX4_endOfSound_4 gl_RX4_69 (ok_next hN) (BM_L) (Nat.le_of_ble_eq_true rfl) (by decide) (goI ?_)
  refine V.ist2 aX4_endOfSound_7 ?_
  refine V.iconst aX4_endOfSound_8 (by decide) ?_
  refine V.ist3 aX4_endOfSound_9 ?_
  exact loop _ 200 0 (s 3) _ (Nat.lt_succ_self _) (by decide) (by decide) (by decide) (by omega) (by omega) rfl
end
