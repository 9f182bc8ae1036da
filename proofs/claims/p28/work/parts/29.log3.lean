-- what a page needs
def fN (s : Int → Int) (p e : Int) : Int := foldD (fun found k => if needsP s p k e then k else found) e e (s 2)
theorem start_bb {s : Int → Int} {p e : Int} (h : s 2 ≤ e) : start s p e = -5 ∨ (s 2 ≤ start s p e ∧ start s p e < e ∧ ofE s (start s p e) 0 = p ∧ ofE s (start s p e) 1 = 0 ∧ s (152 + p) ≤ start s p e) := by
  refine foldI_indB (f := startF s p) (z := -5) (a := s 2) (e := e) (fun b x => x = -5 ∨ (s 2 ≤ x ∧ x < b ∧ ofE s x 0 = p ∧ ofE s x 1 = 0 ∧ s (152 + p) ≤ x)) (Or.inl rfl) (fun b x g0 g1 g2 => ?_) e h (Int.le_refl _)
  unfold startF
  by_cases hc : ofE s b 0 = p ∧ ofE s b 1 = 0 ∧ s (152 + p) ≤ b
  · rw [if_pos hc]
    exact Or.inr ⟨g0, by omega, hc.1, hc.2.1, hc.2.2⟩
  · rw [if_neg hc]
    rcases g2 with h1 | ⟨h1, h2, h3, h4, h5⟩
    · exact Or.inl h1
    · exact Or.inr ⟨h1, by omega, h3, h4, h5⟩
theorem start_at {s : Int → Int} {p e k : Int} (hk : s 2 ≤ k ∧ k < e) (hc : ofE s k 0 = p ∧ ofE s k 1 = 0 ∧ s (152 + p) ≤ k) (h : ∀ j, k < j → j < e → ¬ (ofE s j 0 = p ∧ ofE s j 1 = 0)) : start s p e = k := by
  have e1 : foldI (startF s p) (-5) (s 2) (k + 1) = k := by
    rw [foldI_s hk.1]
    exact if_pos hc
  refine foldI_ind (f := startF s p) (z := -5) (a := s 2) (fun b x => k + 1 ≤ b → b ≤ e → x = k) (fun g _ => by omega) (fun b x g0 g1 g2 g3 => ?_) e (by omega) (by omega) (Int.le_refl _)
  by_cases hb : b = k
  · subst hb
    exact if_pos hc
  · rw [show startF s p x b = x from if_neg (fun q => h b (by omega) (by omega) ⟨q.1, q.2.1⟩)]
    exact g1 (by omega) (by omega)
theorem start_ge {s : Int → Int} {p e k : Int} (hk : s 2 ≤ k ∧ k < e) (hc : ofE s k 0 = p ∧ ofE s k 1 = 0 ∧ s (152 + p) ≤ k) : k ≤ start s p e := by
  refine foldI_ind (f := startF s p) (z := -5) (a := s 2) (fun b x => k + 1 ≤ b → k ≤ x) (fun g => by omega) (fun b x g0 g1 g2 => ?_) e (by omega) (by omega)
  by_cases hb : b = k
  · subst hb
    rw [show startF s p x b = b from if_pos hc]
    exact Int.le_refl _
  · have := g1 (by omega)
    unfold startF
    split <;> omega
theorem start_none {s : Int → Int} {p e : Int} (h : ∀ j, s 2 ≤ j → j < e → ¬ (ofE s j 0 = p ∧ ofE s j 1 = 0 ∧ s (152 + p) ≤ j)) (he : s 2 ≤ e) : start s p e = -5 := by
  refine foldI_indB (f := startF s p) (z := -5) (a := s 2) (e := e) (fun b x => x = -5) rfl (fun b x g0 g1 g2 => ?_) e he (Int.le_refl _)
  rw [show startF s p x b = x from if_neg (h b g0 g1)]
  exact g2
theorem fN_at {s : Int → Int} {p e k : Int} (hk : s 2 ≤ k ∧ k < e) (hc : needsP s p k e) (h : ∀ j, s 2 ≤ j → j < k → ¬ needsP s p j e) : fN s p e = k := by
  unfold fN
  rw [foldD_add (b := k) hk.1 (by omega)]
  have e1 : foldD (fun found k => if needsP s p k e then k else found) e e k = k := by
    have := foldD_s (f := fun found k => if needsP s p k e then k else found) (z := e) (b := e) (k := k + 1) (by omega)
    rw [show k + 1 - 1 = k by omega] at this
    rw [this]
    exact if_pos hc
  rw [e1]
  refine foldD_ind (f := fun found k => if needsP s p k e then k else found) (z := k) (b := k) (fun i x => s 2 ≤ i → x = k) (fun _ => rfl) (fun i x g0 g1 g2 => ?_) (s 2) hk.1 (Int.le_refl _)
  try dsimp only
  rw [if_neg (h (i - 1) g2 (by omega))]
  exact g1 (by omega)
theorem fN_none {s : Int → Int} {p e : Int} (h : ∀ j, s 2 ≤ j → j < e → ¬ needsP s p j e) (he : s 2 ≤ e) : fN s p e = e := by
  unfold fN
  refine foldD_ind (f := fun found k => if needsP s p k e then k else found) (z := e) (b := e) (fun i x => s 2 ≤ i → x = e) (fun _ => rfl) (fun i x g0 g1 g2 => ?_) (s 2) he (Int.le_refl _)
  try dsimp only
  rw [if_neg (h (i - 1) g2 (by omega))]
  exact g1 (by omega)
theorem fN_cases {s : Int → Int} {p e : Int} (he : s 2 ≤ e) : (fN s p e = e ∧ ∀ j, s 2 ≤ j → j < e → ¬ needsP s p j e) ∨ (s 2 ≤ fN s p e ∧ needsP s p (fN s p e) e ∧ ∀ j, s 2 ≤ j → j < fN s p e → ¬ needsP s p j e) := by
  have least : ∀ (n : Nat) (a : Int), (e - a).toNat < n → s 2 ≤ a → (∀ j, s 2 ≤ j → j < a → ¬ needsP s p j e) → (∀ j, s 2 ≤ j → j < e → ¬ needsP s p j e) ∨ ∃ k, s 2 ≤ k ∧ needsP s p k e ∧ ∀ j, s 2 ≤ j → j < k → ¬ needsP s p j e := by
    intro n
    induction n with
    | zero => intro a h; omega
    | succ n ih =>
      intro a hn ha hno
      by_cases hae : e ≤ a
      · exact Or.inl (fun j j0 j1 => hno j j0 (by omega))
      · by_cases hc : needsP s p a e
        · exact Or.inr ⟨a, ha, hc, hno⟩
        · refine ih (a + 1) (by omega) (by omega) (fun j j0 j1 => ?_)
          by_cases q : j = a
          · subst q; exact hc
          · exact hno j j0 (by omega)
  rcases least _ (s 2) (Nat.lt_succ_self _) (Int.le_refl _) (fun j j0 j1 => by omega) with h | ⟨k, h1, h2, h3⟩
  · exact Or.inl ⟨fN_none h he, h⟩
  · have := fN_at ⟨h1, h2.1⟩ h2 h3
    rw [this]
    exact Or.inr ⟨h1, h2, h3⟩
theorem fN_b {s : Int → Int} {p e : Int} (he : s 2 ≤ e) : s 2 ≤ fN s p e ∧ fN s p e ≤ e := by
  rcases fN_cases (p := p) he with ⟨h1, -⟩ | ⟨h1, h2, -⟩
  · omega
  · have := h2.1
    omega
theorem fN_le {s : Int → Int} {p e k : Int} (hk : s 2 ≤ k ∧ k < e) (hp : ofE s k 0 = p) : fN s p e ≤ k ↔ needsP s p k e := by
  rcases fN_cases (s := s) (p := p) (e := e) (by omega) with ⟨h1, h2⟩ | ⟨h1, h2, h3⟩
  · constructor
    · intro h; omega
    · intro h; exact absurd h (h2 k hk.1 hk.2)
  · constructor
    · intro h
      obtain ⟨a1, a2, a3, a4⟩ := h2
      exact ⟨hk.2, hp, by omega, by omega⟩
    · intro h
      by_cases q : fN s p e ≤ k
      · exact q
      · exact absurd h (h3 k hk.1 (by omega))
theorem foldD_congr {α : Type} {f h : α → Int → α} {z : α} {b a : Int} (c : ∀ k x, a ≤ k → k < b → f x k = h x k) : foldD f z b a = foldD h z b a := foldI_congr (fun k x h0 h1 => c _ x (by omega) (by omega))
section
variable {G : GX} {sz : Nat} {m : Mem} {B Z t0 : Nat} {s : Int → Int} {g : Int → Option Nat}
theorem ok_timesOf {p a e0 : Int} (hN : Num s) (hE : EntS s) (hR : EntsR Z t0 m s g) (hZ : B + 22 ≤ Z) (ha : -5 ≤ a ∧ a ≤ 30000) (h1 : s 2 ≤ e0) (h2 : e0 ≤ s 3) : Ok G kX1_timesOf 1 [.inr (some (B + 2)), .inl p, .inl a, .inl e0] sz (BM m B s g) 0 0 (PI (timOf s p (max a (s 2)) e0) sz (BM m B s g)) := by
  refine Ok.body [some (.inr (some (B + 2))), some (.inl p), some (.inl a), some (.inl e0), none, none, none] rfl (Nat.le_of_ble_eq_true rfl) (by decide) ?_
  obtain ⟨n0, n1, n2, n3, n4⟩ := id hN
  obtain ⟨M, hM⟩ : ∃ M, max a (s 2) = M := ⟨_, rfl⟩
  have hm := le_max1 hM
  have loop : ∀ (n : Nat) (k r : Int) (x : Option AV), (e0 - k).toNat < n → M ≤ k → (k ≤ e0 ∨ k = M) → r = timOf s p M k → V G kX1_timesOf (rmM 1 0 0) (QfM G (PI (timOf s p M e0) sz (BM m B s g)) 0 0) 13 [some (.inr (some (B + 2))), some (.inl p), some (.inl a), some (.inl e0), some (.inl r), some (.inl k), x] [] sz (BM m B s g) 0 0 := by
    intro n
    induction n with
    | zero => intro k r x h; omega
    | succ n ih =>
      intro k r x hn hk1 hk2 hr
      have fs : M ≤ k → timOf s p M (k + 1) = timOf s p M k + (if ofE s k 0 = p then timeA s (atE s k) else 0) := fun h => foldI_s h
      have e0' := ofE0 (s := s) (k := k)
      refine V.ild5 aX1_timesOf_13 ?_
      refine V.ild3 aX1_timesOf_15 ?_
      refine V.icmp_ge aX1_timesOf_16 (tgt := 57) (by decide) (fun c16 => ?_) (fun c16 => ?_)
      · refine V.ild4 aX1_timesOf_57 ?_
        refine V.iret aX1_timesOf_59 rfl (by decide) ?_
        exact PI.of (by
          by_cases q : k = e0
          · rw [hr, q]
          · rw [hr, show k = M by omega]; unfold timOf; rw [foldI_0 (Int.le_refl _), foldI_0 (by omega)])
      · obtain ⟨e, hg, he⟩ := hR (k - s 2) (by omega) (by omega)
        obtain ⟨am, va, ho⟩ := he.obj (B := B) (s := s) (g := g) hZ
        have hb := tim_b (p := p) hE (a := M) (by omega) (k := k) (by omega) (by omega)
        rw [← hr] at hb
        have qe := hE k (by omega) (by omega)
        have qt := hE.tm (k := k) (by omega) (by omega)
        refine V.ald0 aX1_timesOf_19 ?_
        refine V.ild5 aX1_timesOf_20 ?_
        refine call_X1_at aX1_timesOf_22 gl_RX1_34 (ok_at1 hg (by omega) (by omega) hN) (BM_L) (Nat.le_of_ble_eq_true rfl) (by decide) (goR ?_)
        refine V.ast6 aX1_timesOf_25 ?_
        refine V.ald6 aX1_timesOf_27 ?_
        refine V.ifnull aX1_timesOf_29 (tgt := 51) (by decide) (fun c29 => ?_) (fun v29 c29 => ?_)
        · cases c29
        · refine V.ald6 aX1_timesOf_32 ?_
          refine V.getf aX1_timesOf_34 fl_RX1_47 ho rfl ?_
          refine V.ild1 aX1_timesOf_37 ?_
          refine V.icmp_ne aX1_timesOf_38 (tgt := 51) (by decide) (fun c38 => ?_) (fun c38 => ?_)
          · refine V.inc5 aX1_timesOf_51 (by omega) ?_
            refine V.goto aX1_timesOf_54 (tgt := 13) (by decide) ?_
            refine ih (k + 1) _ _ (by omega) (by omega) (by omega) ?_
            rw [fs hk1, ← hr]
            first | (rw [if_pos (by omega)]) | (rw [if_neg (by omega)]; omega)
          · refine V.ild4 aX1_timesOf_41 ?_
            refine V.ald6 aX1_timesOf_43 ?_
            refine call_X0_time aX1_timesOf_45 gl_RX1_50 (ok_time ho qe (by omega)) (ho) (Nat.le_of_ble_eq_true rfl) (by decide) (goI ?_)
            refine V.iadd aX1_timesOf_48 (by omega) ?_
            refine V.ist4 aX1_timesOf_49 ?_
            refine V.inc5 aX1_timesOf_51 (by omega) ?_
            refine V.goto aX1_timesOf_54 (tgt := 13) (by decide) ?_
            refine ih (k + 1) _ _ (by omega) (by omega) (by omega) ?_
            rw [fs hk1, ← hr]
            first | (rw [if_pos (by omega)]) | (rw [if_neg (by omega)]; omega)
  refine V.iconst aX1_timesOf_0 (by decide) ?_
  refine V.ist4 aX1_timesOf_1 ?_
  refine V.ild2 aX1_timesOf_3 ?_
  refine V.ald0 aX1_timesOf_4 ?_
  refine U.gfL aX1_timesOf_5 fl_RX1_21 rfl ?_
  refine V.mmax aX1_timesOf_8 gl_RX1_41 gi_RJ9 (by decide) ?_
  rw [hM]
  refine V.ist5 aX1_timesOf_11 ?_
  exact loop _ _ _ _ (Nat.lt_succ_self _) (Int.le_refl _) (Or.inr rfl) (foldI_0 (Int.le_refl _)).symm
theorem ok_latest {p e0 : Int} (hN : Num s) (hR : EntsR Z t0 m s g) (hZ : B + 22 ≤ Z) (h1 : s 2 ≤ e0) (h2 : e0 ≤ s 3) : Ok G kX1_latestPicture 1 [.inr (some (B + 2)), .inl p, .inl e0] sz (BM m B s g) 0 0 (PI (foldI (asFrF s p) (-5) (s 2) e0) sz (BM m B s g)) := by
  refine Ok.body [some (.inr (some (B + 2))), some (.inl p), some (.inl e0), none, none] rfl (Nat.le_of_ble_eq_true rfl) (by decide) ?_
  obtain ⟨n0, n1, n2, n3, n4⟩ := id hN
  have loop : ∀ (n : Nat) (k : Int) (x : Option AV), (k - s 2 + 1).toNat < n → s 2 ≤ k + 1 → k < e0 → (∀ j, k < j → j < e0 → ¬ (ofE s j 0 = p ∧ ofE s j 1 = 0)) → V G kX1_latestPicture (rmM 1 0 0) (QfM G (PI (foldI (asFrF s p) (-5) (s 2) e0) sz (BM m B s g)) 0 0) 4 [some (.inr (some (B + 2))), some (.inl p), some (.inl e0), some (.inl k), x] [] sz (BM m B s g) 0 0 := by
    intro n
    induction n with
    | zero => intro k x h; omega
    | succ n ih =>
      intro k x hn hk1 hk2 hno
      have e0' := ofE0 (s := s) (k := k)
      refine V.ild3 aX1_latestPicture_4 ?_
      refine V.ald0 aX1_latestPicture_5 ?_
      refine U.gfL aX1_latestPicture_6 fl_RX1_21 rfl ?_
      refine V.icmp_lt aX1_latestPicture_9 (tgt := 49) (by decide) (fun c9 => ?_) (fun c9 => ?_)
      · refine V.bipush aX1_latestPicture_49 (by decide) (by decide) ?_
        refine V.iret aX1_latestPicture_51 rfl (by decide) ?_
        exact PI.of (last_none (fun j j0 j1 => hno j (by omega) j1) h1).symm
      · obtain ⟨e, hg, he⟩ := hR (k - s 2) (by omega) (by omega)
        obtain ⟨am, va, ho⟩ := he.obj (B := B) (s := s) (g := g) hZ
        refine V.ald0 aX1_latestPicture_12 ?_
        refine V.ild3 aX1_latestPicture_13 ?_
        refine call_X1_at aX1_latestPicture_14 gl_RX1_34 (ok_at1 hg (by omega) (by omega) hN) (BM_L) (Nat.le_of_ble_eq_true rfl) (by decide) (goR ?_)
        refine V.ast4 aX1_latestPicture_17 ?_
        refine V.ald4 aX1_latestPicture_19 ?_
        refine V.ifnull aX1_latestPicture_21 (tgt := 43) (by decide) (fun c21 => ?_) (fun v21 c21 => ?_)
        · cases c21
        · refine V.ald4 aX1_latestPicture_24 ?_
          refine V.getf aX1_latestPicture_26 fl_RX1_47 ho rfl ?_
          refine V.ild1 aX1_latestPicture_29 ?_
          refine V.icmp_ne aX1_latestPicture_30 (tgt := 43) (by decide) (fun c30 => ?_) (fun c30 => ?_)
          · refine V.inc3 aX1_latestPicture_43 (by omega) ?_
            refine V.goto aX1_latestPicture_46 (tgt := 4) (by decide) ?_
            refine ih (k + -1) _ (by omega) (by omega) (by omega) (fun j j0 j1 => ?_)
            by_cases q : j = k
            · subst q; first | exact fun h => c30 (e0'.symm.trans h.1) | exact fun h => c38 h.2
            · exact hno j (by omega) j1
          · refine V.ald4 aX1_latestPicture_33 ?_
            refine V.getf aX1_latestPicture_35 fl_RX1_53 ho rfl ?_
            refine V.if_ne aX1_latestPicture_38 (tgt := 43) (by decide) (fun c38 => ?_) (fun c38 => ?_)
            · refine V.inc3 aX1_latestPicture_43 (by omega) ?_
              refine V.goto aX1_latestPicture_46 (tgt := 4) (by decide) ?_
              refine ih (k + -1) _ (by omega) (by omega) (by omega) (fun j j0 j1 => ?_)
              by_cases q : j = k
              · subst q; first | exact fun h => c30 (e0'.symm.trans h.1) | exact fun h => c38 h.2
              · exact hno j (by omega) j1
            · refine V.ild3 aX1_latestPicture_41 ?_
              refine V.iret aX1_latestPicture_42 rfl (by decide) ?_
              exact PI.of (last_at ⟨by omega, hk2⟩ ⟨by omega, c38⟩ hno).symm
  refine V.ild2 aX1_latestPicture_0 ?_
  refine V.iconst aX1_latestPicture_1 (by decide) ?_
  refine V.isub aX1_latestPicture_2 (by omega) ?_
  refine V.ist3 aX1_latestPicture_3 ?_
  exact loop _ _ _ (Nat.lt_succ_self _) (by omega) (by omega) (fun j j0 j1 => by omega)
theorem ok_fdam {p a e0 : Int} (hN : Num s) (hE : EntS s) (hR : EntsR Z t0 m s g) (hZ : B + 22 ≤ Z) (ha : -5 ≤ a ∧ a ≤ 30000) (h1 : s 2 ≤ e0) (h2 : e0 ≤ s 3) : Ok G kX1_firstDamaged 1 [.inr (some (B + 2)), .inl p, .inl a, .inl e0] sz (BM m B s g) 0 0 (PI (fdam s p (max a (s 2)) e0) sz (BM m B s g)) := by
  refine Ok.body [some (.inr (some (B + 2))), some (.inl p), some (.inl a), some (.inl e0), none, none] rfl (Nat.le_of_ble_eq_true rfl) (by decide) ?_
  obtain ⟨n0, n1, n2, n3, n4⟩ := id hN
  obtain ⟨M, hM⟩ : ∃ M, max a (s 2) = M := ⟨_, rfl⟩
  have hm := le_max1 hM
  have loop : ∀ (n : Nat) (k : Int) (x : Option AV), (e0 - k).toNat < n → M ≤ k → (∀ j, M ≤ j → j < k → ¬ (ofE s j 0 = p ∧ ofE s j 4 = 1)) → V G kX1_firstDamaged (rmM 1 0 0) (QfM G (PI (fdam s p M e0) sz (BM m B s g)) 0 0) 10 [some (.inr (some (B + 2))), some (.inl p), some (.inl a), some (.inl e0), some (.inl k), x] [] sz (BM m B s g) 0 0 := by
    intro n
    induction n with
    | zero => intro k x h; omega
    | succ n ih =>
      intro k x hn hk1 hno
      have e0' := ofE0 (s := s) (k := k)
      refine V.ild4 aX1_firstDamaged_10 ?_
      refine V.ild3 aX1_firstDamaged_12 ?_
      refine V.icmp_ge aX1_firstDamaged_13 (tgt := 55) (by decide) (fun c13 => ?_) (fun c13 => ?_)
      · refine V.ild3 aX1_firstDamaged_55 ?_
        refine V.iret aX1_firstDamaged_56 rfl (by decide) ?_
        exact PI.of (fdam_none (fun j j0 j1 => hno j j0 (by omega))).symm
      · obtain ⟨e, hg, he⟩ := hR (k - s 2) (by omega) (by omega)
        obtain ⟨am, va, ho⟩ := he.obj (B := B) (s := s) (g := g) hZ
        have q4 : ofE s k 4 = 0 ∨ ofE s k 4 = 1 := (hE k (by omega) (by omega)).2.2.2.1
        refine V.ald0 aX1_firstDamaged_16 ?_
        refine V.ild4 aX1_firstDamaged_17 ?_
        refine call_X1_at aX1_firstDamaged_19 gl_RX1_34 (ok_at1 hg (by omega) (by omega) hN) (BM_L) (Nat.le_of_ble_eq_true rfl) (by decide) (goR ?_)
        refine V.ast5 aX1_firstDamaged_22 ?_
        refine V.ald5 aX1_firstDamaged_24 ?_
        refine V.ifnull aX1_firstDamaged_26 (tgt := 49) (by decide) (fun c26 => ?_) (fun v26 c26 => ?_)
        · cases c26
        · refine V.ald5 aX1_firstDamaged_29 ?_
          refine V.getf aX1_firstDamaged_31 fl_RX1_47 ho rfl ?_
          refine V.ild1 aX1_firstDamaged_34 ?_
          refine V.icmp_ne aX1_firstDamaged_35 (tgt := 49) (by decide) (fun c35 => ?_) (fun c35 => ?_)
          · refine V.inc4 aX1_firstDamaged_49 (by omega) ?_
            refine V.goto aX1_firstDamaged_52 (tgt := 10) (by decide) ?_
            refine ih (k + 1) _ (by omega) (by omega) (fun j j0 j1 => ?_)
            by_cases q : j = k
            · subst q; first | exact fun h => c35 (e0'.symm.trans h.1) | exact fun h => absurd (h.2.symm.trans c43) (by decide)
            · exact hno j j0 (by omega)
          · refine V.ald5 aX1_firstDamaged_38 ?_
            refine V.getf aX1_firstDamaged_40 fl_RX1_56 ho rfl ?_
            refine V.if_eq aX1_firstDamaged_43 (tgt := 49) (by decide) (fun c43 => ?_) (fun c43 => ?_)
            · refine V.inc4 aX1_firstDamaged_49 (by omega) ?_
              refine V.goto aX1_firstDamaged_52 (tgt := 10) (by decide) ?_
              refine ih (k + 1) _ (by omega) (by omega) (fun j j0 j1 => ?_)
              by_cases q : j = k
              · subst q; first | exact fun h => c35 (e0'.symm.trans h.1) | exact fun h => absurd (h.2.symm.trans c43) (by decide)
              · exact hno j j0 (by omega)
            · refine V.ild4 aX1_firstDamaged_46 ?_
              refine V.iret aX1_firstDamaged_48 rfl (by decide) ?_
              exact PI.of (fdam_at ⟨hk1, by omega⟩ ⟨by omega, q4.resolve_left c43⟩ hno).symm
  refine V.ild2 aX1_firstDamaged_0 ?_
  refine V.ald0 aX1_firstDamaged_1 ?_
  refine U.gfL aX1_firstDamaged_2 fl_RX1_21 rfl ?_
  refine V.mmax aX1_firstDamaged_5 gl_RX1_41 gi_RJ9 (by decide) ?_
  rw [hM]
  refine V.ist4 aX1_firstDamaged_8 ?_
  exact loop _ _ _ (Nat.lt_succ_self _) (Int.le_refl _) (fun j j0 j1 => by omega)
theorem ok_firstN {p e0 : Int} (hN : Num s) (hE : EntS s) (hR : EntsR Z t0 m s g) (hZ : B + 22 ≤ Z) (hp : 0 ≤ p ∧ p < 6) (hs : 0 ≤ s (152 + p) ∧ s (152 + p) ≤ 30000) (h1 : s 2 ≤ e0) (h2 : e0 ≤ s 3) : Ok G kX4_firstNeeded 1 [.inr (some B), .inl p, .inl e0] sz (BM m B s g) 0 0 (PI (fN s p e0) sz (BM m B s g)) := by
  refine Ok.body [some (.inr (some B)), some (.inl p), some (.inl e0), none, none, none, none] rfl (Nat.le_of_ble_eq_true rfl) (by decide) ?_
  obtain ⟨n0, n1, n2, n3, n4⟩ := id hN
  obtain ⟨M, hM⟩ : ∃ M, max (s 2) (s (152 + p)) = M := ⟨_, rfl⟩
  have hm := le_max1 hM
  obtain ⟨F, hF⟩ : ∃ F : Int → Int → Int, F = fun x j => if ofE s j 0 = p then j else x := ⟨_, rfl⟩
  have loop : ∀ (n : Nat) (k r : Int) (x : Option AV), (k - M + 1).toNat < n → k < e0 → (M ≤ k + 1 ∨ k = e0 - 1) → r = foldD F e0 e0 (k + 1) → (∀ j, k < j → j < e0 → ¬ (ofE s j 0 = p ∧ ofE s j 1 = 0)) → V G kX4_firstNeeded (rmM 1 0 0) (QfM G (PI (fN s p e0) sz (BM m B s g)) 0 0) 28 [some (.inr (some B)), some (.inl p), some (.inl e0), some (.inl M), some (.inl r), some (.inl k), x] [] sz (BM m B s g) 0 0 := by
    intro n
    induction n with
    | zero => intro k r x h; omega
    | succ n ih =>
      intro k r x hn hk1 hk2 hr hno
      have e0' := ofE0 (s := s) (k := k)
      have fs : foldD F e0 e0 k = F (foldD F e0 e0 (k + 1)) k := by
        have := foldD_s (f := F) (z := e0) (b := e0) (k := k + 1) (by omega)
        rw [show k + 1 - 1 = k by omega] at this
        exact this
      rw [← hr] at fs
      refine V.ild5 aX4_firstNeeded_28 ?_
      refine V.ild3 aX4_firstNeeded_30 ?_
      refine V.icmp_lt aX4_firstNeeded_31 (tgt := 80) (by decide) (fun c31 => ?_) (fun c31 => ?_)
      · refine V.ild4 aX4_firstNeeded_80 ?_
        refine V.iret aX4_firstNeeded_82 rfl (by decide) ?_
        by_cases hMe : M ≤ k + 1
        · have ek : k + 1 = M := by omega
          have st := start_none (s := s) (p := p) (e := e0) (fun j j0 j1 jc => hno j (by omega) j1 ⟨jc.1, jc.2.1⟩) h1
          refine PI.of ?_
          rw [hr, ek]
          unfold fN
          rw [foldD_add (b := M) (a := e0) (c := s 2) (by omega) (by omega)]
          have ea : foldD F e0 e0 M = foldD (fun found k => if needsP s p k e0 then k else found) e0 e0 M := foldD_congr (fun j x j0 j1 => by
            rw [hF]
            try dsimp only
            by_cases q : ofE s j 0 = p
            · rw [if_pos q, if_pos ⟨j1, q, by omega, by omega⟩]
            · rw [if_neg q, if_neg (fun g => q g.2.1)])
          rw [ea]
          exact (foldD_ind (f := fun found k => if needsP s p k e0 then k else found) (z := foldD (fun found k => if needsP s p k e0 then k else found) e0 e0 M) (b := M) (fun i x => s 2 ≤ i → x = foldD (fun found k => if needsP s p k e0 then k else found) e0 e0 M) (fun _ => rfl) (fun i x g0 g1 g2 => by
            try dsimp only
            rw [if_neg (fun q => by have := q.2.2.1; omega)]
            exact g1 (by omega)) (s 2) (by omega) (Int.le_refl _)).symm
        · refine PI.of ?_
          rw [hr, foldD_0 (by omega)]
          exact (fN_none (fun j j0 j1 jn => by have := jn.2.2.1; omega) h1).symm
      · obtain ⟨e, hg, he⟩ := hR (k - s 2) (by omega) (by omega)
        obtain ⟨am, va, ho⟩ := he.obj (B := B) (s := s) (g := g) hZ
        refine V.ald0 aX4_firstNeeded_34 ?_
        refine U.gfS aX4_firstNeeded_35 fl_RX4_20 rfl ?_
        refine V.ild5 aX4_firstNeeded_38 ?_
        refine call_X1_at aX4_firstNeeded_40 gl_RX4_57 (ok_at1 hg (by omega) (by omega) hN) (BM_L) (Nat.le_of_ble_eq_true rfl) (by decide) (goR ?_)
        refine V.ast6 aX4_firstNeeded_43 ?_
        refine V.ald6 aX4_firstNeeded_45 ?_
        refine V.ifnull aX4_firstNeeded_47 (tgt := 74) (by decide) (fun c47 => ?_) (fun v47 c47 => ?_)
        · cases c47
        · refine V.ald6 aX4_firstNeeded_50 ?_
          refine V.getf aX4_firstNeeded_52 fl_RX4_61 ho rfl ?_
          refine V.ild1 aX4_firstNeeded_55 ?_
          refine V.icmp_ne aX4_firstNeeded_56 (tgt := 74) (by decide) (fun c56 => ?_) (fun c56 => ?_)
          · refine V.inc5 aX4_firstNeeded_74 (by omega) ?_
            refine V.goto aX4_firstNeeded_77 (tgt := 28) (by decide) ?_
            refine ih (k + -1) _ _ (by omega) (by omega) (by omega) ?_ (fun j j0 j1 => ?_)
            · rw [show k + -1 + 1 = k by omega, fs, hF]
              first | exact (if_pos (by omega)).symm | exact (if_neg (fun h => c56 (e0'.symm.trans h))).symm
            · by_cases q : j = k
              · subst q; first | exact fun h => c56 (e0'.symm.trans h.1) | exact fun h => c68 h.2
              · exact hno j (by omega) j1
          · refine V.ild5 aX4_firstNeeded_59 ?_
            refine V.ist4 aX4_firstNeeded_61 ?_
            refine V.ald6 aX4_firstNeeded_63 ?_
            refine V.getf aX4_firstNeeded_65 fl_RX4_66 ho rfl ?_
            refine V.if_ne aX4_firstNeeded_68 (tgt := 74) (by decide) (fun c68 => ?_) (fun c68 => ?_)
            · refine V.inc5 aX4_firstNeeded_74 (by omega) ?_
              refine V.goto aX4_firstNeeded_77 (tgt := 28) (by decide) ?_
              refine ih (k + -1) _ _ (by omega) (by omega) (by omega) ?_ (fun j j0 j1 => ?_)
              · rw [show k + -1 + 1 = k by omega, fs, hF]
                first | exact (if_pos (by omega)).symm | exact (if_neg (fun h => c56 (e0'.symm.trans h))).symm
              · by_cases q : j = k
                · subst q; first | exact fun h => c56 (e0'.symm.trans h.1) | exact fun h => c68 h.2
                · exact hno j (by omega) j1
            · refine V.ild4 aX4_firstNeeded_71 ?_
              refine V.iret aX4_firstNeeded_73 rfl (by decide) ?_
              have st := start_at (s := s) (p := p) (e := e0) (k := k) ⟨by omega, hk1⟩ ⟨by omega, c68, by omega⟩ hno
              exact PI.of (fN_at ⟨by omega, hk1⟩ ⟨hk1, by omega, by omega, by omega⟩ (fun j j0 j1 jn => by have := jn.2.2.2; omega)).symm
  refine V.ald0 aX4_firstNeeded_0 ?_
  refine U.gfS aX4_firstNeeded_1 fl_RX4_20 rfl ?_
  refine U.gfL aX4_firstNeeded_4 fl_RX4_45 rfl ?_
  refine V.ald0 aX4_firstNeeded_7 ?_
  refine U.gfS aX4_firstNeeded_8 fl_RX4_11 rfl ?_
  refine V.ild1 aX4_firstNeeded_11 ?_
  refine U.aaP aX4_firstNeeded_12 (by omega) ?_
  refine U.gfP aX4_firstNeeded_13 fl_RX4_48 (by omega) rfl ?_
  refine V.mmax aX4_firstNeeded_16 gl_RX4_51 gi_RJ9 (by decide) ?_
  rw [hM]
  refine V.ist3 aX4_firstNeeded_19 ?_
  refine V.ild2 aX4_firstNeeded_20 ?_
  refine V.ist4 aX4_firstNeeded_21 ?_
  refine V.ild2 aX4_firstNeeded_23 ?_
  refine V.iconst aX4_firstNeeded_24 (by decide) ?_
  refine V.isub aX4_firstNeeded_25 (by omega) ?_
  refine V.ist5 aX4_firstNeeded_26 ?_
  exact loop _ _ _ _ (Nat.lt_succ_self _) (by omega) (by omega) (foldD_0 (by omega)).symm (fun j j0 j1 => by omega)
end
