-- what the whole log tells (part two)
theorem pict_r12 {s : Int → Int} {a : Int} : pict (r12 s a) 0 = pict s a := pict_eq (fun j j0 j1 => by rw [Int.zero_add]; exact r12_in ⟨j0, j1⟩)
theorem needsMany_eq {s : Int → Int} {p : Int} (hN : Num s) : needsMany s p = cntOf s p (fN s p (s 3)) (s 3) := by
  obtain ⟨n0, n1, n2, n3, n4⟩ := id hN
  have hb := fN_b (s := s) (p := p) (e := s 3) (by omega)
  have e1 : needsMany s p = sumI (fun k => b2 (needsP s p k (s 3))) (s 2) (s 3) := rfl
  have e2 : cntOf s p (fN s p (s 3)) (s 3) = sumI (fun k => b2 (ofE s k 0 = p)) (fN s p (s 3)) (s 3) := rfl
  rw [e1, e2, sumI_add (b := fN s p (s 3)) hb.1 _ hb.2, sumI_zero (f := fun k => b2 (needsP s p k (s 3))) (fun k k0 k1 => b2_f (fun q => by have := (fN_le ⟨k0, by omega⟩ q.2.1).mpr q; omega)) hb.1, Int.zero_add]
  exact sumI_congr (fun k k0 k1 => by
    by_cases q : ofE s k 0 = p
    · rw [b2_t q, b2_t ((fN_le ⟨by omega, k1⟩ q).mp k0)]
    · rw [b2_f q, b2_f (fun g => q g.2.1)])
theorem fnd_fN {s : Int → Int} {p : Int} (hN : Num s) : fnd s p = if fN s p (s 3) < s 3 then fN s p (s 3) else -5 := by
  obtain ⟨n0, n1, n2, n3, n4⟩ := id hN
  rcases fN_cases (s := s) (p := p) (e := s 3) (by omega) with ⟨h1, h2⟩ | ⟨h1, h2, h3⟩
  · rw [if_neg (by omega)]
    exact fnd_none h2 (by omega)
  · have := h2.1
    rw [if_pos this]
    exact fnd_at h3 ⟨h1, this⟩ h2
section
variable {G : GX} {sz : Nat} {m m1 mb : Mem} {X Z t0 : Nat} {C D : Int} {b c : BS} {h : Int → Nat × BS} {sv ish ln : Int} {tx : Int → Int}
theorem ok_asNum {z : Int} (hz : z = 0 ∨ z = 1) : Ok G kX5_asNumber 0 [.inl z] sz m 0 0 (PI z sz m) := by
  refine Ok.body [some (.inl z)] rfl (Nat.le_of_ble_eq_true rfl) (by decide) ?_
  refine V.ild0 aX5_asNumber_0 ?_
  refine V.if_eq aX5_asNumber_1 (tgt := 8) (by decide) (fun c1 => ?_) (fun c1 => ?_)
  · refine V.iconst aX5_asNumber_8 (by decide) ?_
    refine V.iret aX5_asNumber_9 rfl (by decide) ?_
    exact PI.of (by omega)
  · refine V.iconst aX5_asNumber_4 (by decide) ?_
    refine V.goto aX5_asNumber_5 (tgt := 9) (by decide) ?_
    refine V.iret aX5_asNumber_9 rfl (by decide) ?_
    exact PI.of (by omega)
theorem PQ.ext (p : PQ m X Z t0 mb C b h c sv ish tx ln) (x : Ext m m1) : PQ m1 X Z t0 mb C b h c sv ish tx ln := by
  have pa := p.act x (p.2.1.1.ext x) (p.1.2.2.2.2.1.2.ext x) p.2.1.2 ⟨Int.le_refl _, by have := p.2.1.2.num; omega⟩
  rw [← (p.1.2.2.2.2.1.1.extB (B := X + 134) (fun a h0 _ => x a h0) (by omega)).eq] at pa
  exact pa
theorem ok5_best (p : PQ m X Z t0 mb C b h c sv ish tx ln) : Ok G kX5_bestRenewed 3 [.inr (some X)] sz m 0 0 (PI (bestZ b.1) sz m) := by
  refine Ok.body [some (.inr (some X)), none, none, none, none] rfl (Nat.le_of_ble_eq_true rfl) (by decide) ?_
  have eb := p.1.2.2.2.2.1.1.eq
  have p9 := p.1.2.2.2.2.2.2.2.2.1
  have hN := p.2.1.2.N
  have hE := p.2.1.2.E
  have hR := p.2.1.1
  have hP := p.2.1.2.P
  have hZ : X + 1 + 22 ≤ Z := by omega
  have hx : BM m (X + 1) b.1 b.2 X = obj 5 (xobj X sv ish ln) := (BM_n (Or.inl (by omega))).trans p.1.1
  have loop : ∀ (n : Nat) (k : Int) (q : Int × Int) (x : Option AV), (6 - k).toNat < n → 0 ≤ k → k ≤ 6 → q = foldI (bestF b.1) (-5, 0) 0 k → V G kX5_bestRenewed (rmM 3 0 0) (QfM G (PI (bestZ b.1) sz (BM m (X + 1) b.1 b.2)) 0 0) 7 [some (.inr (some X)), some (.inl q.1), some (.inl q.2), some (.inl k), x] [] sz (BM m (X + 1) b.1 b.2) 0 0 := by
    intro n
    induction n with
    | zero => intro k q x h; omega
    | succ n ih =>
      intro k q x hn hk1 hk2 hq
      have ht := timeOf_bb hN hE (p := k)
      have hpb := pict_b (f := b.1) (a := 8 + 12 * k)
      have es := foldI_s (f := bestF b.1) (z := (-5, 0)) (a := 0) (k := k) hk1
      rw [← hq] at es
      refine V.ild3 aX5_bestRenewed_7 ?_
      refine V.bipush aX5_bestRenewed_8 (by decide) (by decide) ?_
      refine V.icmp_ge aX5_bestRenewed_10 (tgt := 56) (by decide) (fun c10 => ?_) (fun c10 => ?_)
      · refine V.ild1 aX5_bestRenewed_56 ?_
        refine V.iret aX5_bestRenewed_57 rfl (by decide) ?_
        exact PI.of (by rw [hq, show k = 6 by omega]; rfl)
      · refine V.ald0 aX5_bestRenewed_13 ?_
        refine V.getf aX5_bestRenewed_14 fl_RX5_12 hx rfl ?_
        refine V.ild3 aX5_bestRenewed_17 ?_
        refine call_X4_timeToRestore aX5_bestRenewed_18 gl_RX5_146 (ok_time4 hN hE hR hZ hP (by omega)) (BM_S) (Nat.le_of_ble_eq_true rfl) (by decide) (goI ?_)
        refine V.ald0 aX5_bestRenewed_21 ?_
        refine V.getf aX5_bestRenewed_22 fl_RX5_12 hx rfl ?_
        refine U.gfS aX5_bestRenewed_25 fl_RX5_132 rfl ?_
        refine V.ild3 aX5_bestRenewed_28 ?_
        refine U.aaP aX5_bestRenewed_29 (by omega) ?_
        refine U.gfP aX5_bestRenewed_30 fl_RX5_136 (by omega) rfl ?_
        refine call_X0_sizeOfPicture aX5_bestRenewed_33 gl_RX5_166 (ok_pics (BM_c (p := k) (by omega))) (Nat.le_of_ble_eq_true rfl) (by decide) (goI ?_)
        rw [pict_r12]
        refine V.isub aX5_bestRenewed_36 (by omega) ?_
        refine V.ist4 aX5_bestRenewed_37 ?_
        refine V.ild4 aX5_bestRenewed_39 ?_
        refine V.ild2 aX5_bestRenewed_41 ?_
        refine V.icmp_le aX5_bestRenewed_42 (tgt := 50) (by decide) (fun c42 => ?_) (fun c42 => ?_)
        · refine V.inc3 aX5_bestRenewed_50 (by omega) ?_
          refine V.goto aX5_bestRenewed_53 (tgt := 7) (by decide) ?_
          have h9 := ih (k + 1) (bestF b.1 q k) (some (.inl (timeOf b.1 k - pict b.1 (8 + 12 * k)))) (by omega) (by omega) (by omega) es.symm
          unfold bestF at h9
          first | (rw [if_pos (by omega), if_pos (by omega)] at h9; exact h9) | (rw [if_neg (by omega), if_neg (by omega)] at h9; exact h9)
        · refine V.ild4 aX5_bestRenewed_45 ?_
          refine V.ist2 aX5_bestRenewed_47 ?_
          refine V.ild3 aX5_bestRenewed_48 ?_
          refine V.ist1 aX5_bestRenewed_49 ?_
          refine V.inc3 aX5_bestRenewed_50 (by omega) ?_
          refine V.goto aX5_bestRenewed_53 (tgt := 7) (by decide) ?_
          have h9 := ih (k + 1) (bestF b.1 q k) (some (.inl (timeOf b.1 k - pict b.1 (8 + 12 * k)))) (by omega) (by omega) (by omega) es.symm
          unfold bestF at h9
          first | (rw [if_pos (by omega), if_pos (by omega)] at h9; exact h9) | (rw [if_neg (by omega), if_neg (by omega)] at h9; exact h9)
  rw [← eb] at loop
  refine V.bipush aX5_bestRenewed_0 (by decide) (by decide) ?_
  refine V.ist1 aX5_bestRenewed_2 ?_
  refine V.iconst aX5_bestRenewed_3 (by decide) ?_
  refine V.ist2 aX5_bestRenewed_4 ?_
  refine V.iconst aX5_bestRenewed_5 (by decide) ?_
  refine V.ist3 aX5_bestRenewed_6 ?_
  exact loop _ 0 (-5, 0) _ (Nat.lt_succ_self _) (by decide) (by decide) (foldI_0 (Int.le_refl _)).symm
theorem ok5_page1 {r w : Int} (hw : ¬ (0 ≤ r ∧ r ≤ 5)) : Ok G kX5_page 3 [.inr (some X), .inl r, .inl w] sz m 0 0 (PI (-1) sz m) := by
  refine Ok.body [some (.inr (some X)), some (.inl r), some (.inl w), none, none] rfl (Nat.le_of_ble_eq_true rfl) (by decide) ?_
  refine V.ild1 aX5_page_0 ?_
  refine call_X5_isPage aX5_page_1 gl_RX5_27 (ok_isPage5) (Nat.le_of_ble_eq_true rfl) (by decide) (goI ?_)
  refine V.ifb_ne aX5_page_4 (tgt := 9) (by decide) (fun c4 => ?_) (fun c4 => ?_)
  · exfalso
    omega
  · refine V.iconst aX5_page_7 (by decide) ?_
    refine V.iret aX5_page_8 rfl (by decide) ?_
    exact PI.of rfl
theorem ok5_page2 {r w : Int} (p : PQ m X Z t0 mb C b h c sv ish tx ln) (hw : 0 ≤ r ∧ r ≤ 5) : Ok G kX5_page 3 [.inr (some X), .inl r, .inl w] sz m 0 0 (PI (pageZ b.1 r w) sz m) := by
  refine Ok.body [some (.inr (some X)), some (.inl r), some (.inl w), none, none] rfl (Nat.le_of_ble_eq_true rfl) (by decide) ?_
  have eb := p.1.2.2.2.2.1.1.eq
  have p9 := p.1.2.2.2.2.2.2.2.2.1
  have hN := p.2.1.2.N
  have hE := p.2.1.2.E
  have hR := p.2.1.1
  have hP := p.2.1.2.P
  have hPr := hP r hw.1 (by omega)
  have hDr := p.2.1.2.D r hw.1 (by omega)
  have hZ : X + 1 + 22 ≤ Z := by omega
  obtain ⟨n0, n1, n2, n3, n4⟩ := id hN
  have hb := fN_b (s := b.1) (p := r) (e := b.1 3) (by omega)
  have hnm := needsMany_eq (s := b.1) (p := r) hN
  have hfn := fnd_fN (s := b.1) (p := r) hN
  have hmx : max (fN b.1 r (b.1 3)) (b.1 2) = fN b.1 r (b.1 3) := by omega
  have hx : BM m (X + 1) b.1 b.2 X = obj 5 (xobj X sv ish ln) := (BM_n (Or.inl (by omega))).trans p.1.1
  rw [eb]
  rw [← eb]
  refine V.mem (m2 := BM m (X + 1) b.1 b.2) eb.symm ?_
  refine V.ild1 aX5_page_0 ?_
  refine call_X5_isPage aX5_page_1 gl_RX5_27 (ok_isPage5) (Nat.le_of_ble_eq_true rfl) (by decide) (goI ?_)
  refine V.ifb_ne aX5_page_4 (tgt := 9) (by decide) (fun c4 => ?_) (fun c4 => ?_)
  · refine V.ald0 aX5_page_9 ?_
    refine V.getf aX5_page_10 fl_RX5_12 hx rfl ?_
    refine U.gfS aX5_page_13 fl_RX5_58 rfl ?_
    refine call_X1_next aX5_page_16 gl_RX5_62 (ok_next hN) (BM_L) (Nat.le_of_ble_eq_true rfl) (by decide) (goI ?_)
    refine V.ist3 aX5_page_19 ?_
    refine V.ald0 aX5_page_20 ?_
    refine V.getf aX5_page_21 fl_RX5_12 hx rfl ?_
    refine V.ild1 aX5_page_24 ?_
    refine V.ild3 aX5_page_25 ?_
    refine call_X4_firstNeeded aX5_page_26 gl_RX5_142 (ok_firstN hN hE hR hZ (by omega) (by omega) (by omega) (by omega)) (BM_S) (Nat.le_of_ble_eq_true rfl) (by decide) (goI ?_)
    refine V.ist4 aX5_page_29 ?_
    refine V.ild2 aX5_page_31 ?_
    refine V.tsw7 aX5_page_32 (t0 := 76) (t1 := 85) (t2 := 100) (t3 := 114) (t4 := 127) (t5 := 143) (t6 := 155) (t7 := 171) (by decide) (by decide) (by decide) (by decide) (by decide) (by decide) (by decide) (by decide) (fun c32 => ?_) (fun c32 => ?_) (fun c32 => ?_) (fun c32 => ?_) (fun c32 => ?_) (fun c32 => ?_) (fun c32 => ?_) (fun c32 => ?_)
    · refine V.ald0 aX5_page_76 ?_
      refine V.getf aX5_page_77 fl_RX5_12 hx rfl ?_
      refine V.ild1 aX5_page_80 ?_
      refine call_X4_timeToRestore aX5_page_81 gl_RX5_146 (ok_time4 hN hE hR hZ hP (by omega)) (BM_S) (Nat.le_of_ble_eq_true rfl) (by decide) (goI ?_)
      refine V.iret aX5_page_84 rfl (by decide) ?_
      exact PI.of2 (by rw [c32]; rfl) eb.symm
    · refine V.ald0 aX5_page_85 ?_
      refine V.getf aX5_page_86 fl_RX5_12 hx rfl ?_
      refine U.gfS aX5_page_89 fl_RX5_58 rfl ?_
      refine V.ild1 aX5_page_92 ?_
      refine V.ild4 aX5_page_93 ?_
      refine V.ild3 aX5_page_95 ?_
      refine call_X1_entriesOf aX5_page_96 gl_RX5_149 (ok_entriesOf hN hR hZ (by omega) (by omega) (by omega)) (BM_L) (Nat.le_of_ble_eq_true rfl) (by decide) (goI ?_)
      rw [hmx]
      refine V.iret aX5_page_99 rfl (by decide) ?_
      exact PI.of2 (by rw [c32]; exact hnm.symm) eb.symm
    · refine V.ild4 aX5_page_100 ?_
      refine V.ild3 aX5_page_102 ?_
      refine V.icmp_ge aX5_page_103 (tgt := 111) (by decide) (fun c103 => ?_) (fun c103 => ?_)
      · refine V.bipush aX5_page_111 (by decide) (by decide) ?_
        refine V.iret aX5_page_113 rfl (by decide) ?_
        exact PI.of2 (by rw [c32]; show _ = fnd b.1 r; rw [hfn]; first | exact (if_neg (by omega)).symm | exact (if_pos (by omega)).symm) eb.symm
      · refine V.ild4 aX5_page_106 ?_
        refine V.goto aX5_page_108 (tgt := 113) (by decide) ?_
        refine V.iret aX5_page_113 rfl (by decide) ?_
        exact PI.of2 (by rw [c32]; show _ = fnd b.1 r; rw [hfn]; first | exact (if_neg (by omega)).symm | exact (if_pos (by omega)).symm) eb.symm
    · refine V.ald0 aX5_page_114 ?_
      refine V.getf aX5_page_115 fl_RX5_12 hx rfl ?_
      refine U.gfS aX5_page_118 fl_RX5_132 rfl ?_
      refine V.ild1 aX5_page_121 ?_
      refine U.aaP aX5_page_122 (by omega) ?_
      refine U.gfP aX5_page_123 fl_RX5_153 (by omega) rfl ?_
      refine V.iret aX5_page_126 rfl (by decide) ?_
      exact PI.of2 (by rw [c32]; rfl) eb.symm
    · refine V.ald0 aX5_page_127 ?_
      refine V.getf aX5_page_128 fl_RX5_12 hx rfl ?_
      refine U.gfS aX5_page_131 fl_RX5_132 rfl ?_
      refine V.ild1 aX5_page_134 ?_
      refine U.aaP aX5_page_135 (by omega) ?_
      refine U.gfP aX5_page_136 fl_RX5_156 (by omega) rfl ?_
      refine call_X5_asNumber aX5_page_139 gl_RX5_159 (ok_asNum (by first | exact b2_01 | omega)) (Nat.le_of_ble_eq_true rfl) (by decide) (goI ?_)
      refine V.iret aX5_page_142 rfl (by decide) ?_
      exact PI.of2 (by rw [c32]; rfl) eb.symm
    · refine V.ald0 aX5_page_143 ?_
      refine V.getf aX5_page_144 fl_RX5_12 hx rfl ?_
      refine V.ild1 aX5_page_147 ?_
      refine call_X4_needsDamaged aX5_page_148 gl_RX5_163 (ok_needsD hN hE hR hZ hP (by omega)) (BM_S) (Nat.le_of_ble_eq_true rfl) (by decide) (goI ?_)
      refine call_X5_asNumber aX5_page_151 gl_RX5_159 (ok_asNum (by first | exact b2_01 | omega)) (Nat.le_of_ble_eq_true rfl) (by decide) (goI ?_)
      refine V.iret aX5_page_154 rfl (by decide) ?_
      exact PI.of2 (by rw [c32]; show _ = (if firstDam b.1 r (b.1 3) = -5 then (0 : Int) else 1); by_cases q : firstDam b.1 r (b.1 3) = -5; (rw [if_pos q]; exact b2_f (fun g => g q)); (rw [if_neg q]; exact b2_t q)) eb.symm
    · refine V.ald0 aX5_page_155 ?_
      refine V.getf aX5_page_156 fl_RX5_12 hx rfl ?_
      refine U.gfS aX5_page_159 fl_RX5_132 rfl ?_
      refine V.ild1 aX5_page_162 ?_
      refine U.aaP aX5_page_163 (by omega) ?_
      refine U.gfP aX5_page_164 fl_RX5_136 (by omega) rfl ?_
      refine call_X0_sizeOfPicture aX5_page_167 gl_RX5_166 (ok_pics (BM_c (p := r) (by omega))) (Nat.le_of_ble_eq_true rfl) (by decide) (goI ?_)
      rw [pict_r12]
      refine V.iret aX5_page_170 rfl (by decide) ?_
      exact PI.of2 (by rw [c32]; rfl) eb.symm
    · refine V.bipush aX5_page_171 (by decide) (by decide) ?_
      refine V.iret aX5_page_173 rfl (by decide) ?_
      exact PI.of2 (by unfold pageZ; rw [if_neg (by omega), if_neg (by omega), if_neg (by omega), if_neg (by omega), if_neg (by omega), if_neg (by omega), if_neg (by omega)]) eb.symm
  · exfalso
    omega
end
