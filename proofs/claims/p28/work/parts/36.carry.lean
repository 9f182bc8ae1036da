-- a change is carried out
section
variable {G : GX} {sz : Nat} {m : Mem} {B Z t0 : Nat} {s : Int → Int} {g : Int → Option Nat} {C : Int}
theorem ok_isLog {e ra : Nat} {w c' : Int → Int} (hA : AskR Z t0 m e w) (hc : Eq12 (doCl s Zr w) c') (hN : Num s) (hE : EntS s) (hR : EntsR Z t0 m s g) (hP : PgS s) (hZ : B + 22 ≤ Z) (hv : (BM m B s g) ra = iar 12 c') : Ok G kX4_isLoggedAsPicture 3 [.inr (some B), .inr (some e), .inr (some ra)] sz (BM m B s g) 0 0 (PI (b2 (w 1 = 0 ∨ chIs s Zr w)) sz (BM m B s g)) := by
  refine Ok.body [some (.inr (some B)), some (.inr (some e)), some (.inr (some ra))] rfl (Nat.le_of_ble_eq_true rfl) (by decide) ?_
  have hpg := hA.pg
  have htb := timeOf_bb hN hE (p := w 0)
  rcases hA with ⟨h1, h2, h3⟩ | ⟨h1, h2, h3, h4, h0, h5⟩
  · obtain ⟨am, va, ho⟩ := h3.obj (B := B) (s := s) (g := g) hZ
    have htm := timeA_b h2
    have hpc : pict c' 0 = pict (chCl s Zr w) 0 := by
      rw [hc.pic]
      unfold doCl
      rw [if_neg h1]
    refine V.ald1 aX4_isLoggedAsPicture_0 ?_
    refine V.getf aX4_isLoggedAsPicture_1 fl_RX4_66 ho rfl ?_
    refine V.if_eq aX4_isLoggedAsPicture_4 (tgt := 15) (by decide) (fun c4 => ?_) (fun c4 => ?_)
    · exact absurd c4 h1
    · refine V.ald0 aX4_isLoggedAsPicture_7 ?_
      refine U.gfS aX4_isLoggedAsPicture_8 fl_RX4_24 rfl ?_
      refine V.iconst aX4_isLoggedAsPicture_11 (by decide) ?_
      refine V.icmp_ne aX4_isLoggedAsPicture_12 (tgt := 17) (by decide) (fun c12 => ?_) (fun c12 => ?_)
      · refine V.ald0 aX4_isLoggedAsPicture_17 ?_
        refine U.gfS aX4_isLoggedAsPicture_18 fl_RX4_24 rfl ?_
        refine V.iconst aX4_isLoggedAsPicture_21 (by decide) ?_
        refine V.icmp_ne aX4_isLoggedAsPicture_22 (tgt := 49) (by decide) (fun c22 => ?_) (fun c22 => ?_)
        · refine V.iconst aX4_isLoggedAsPicture_49 (by decide) ?_
          refine V.zret aX4_isLoggedAsPicture_50 rfl (by first | decide | exact b2_01 | omega) (by decide) ?_
          refine PI.of ?_
          first
            | exact (b2_t (Or.inr (Or.inl (by omega)))).symm
            | exact (b2_t (Or.inr (Or.inr ⟨by omega, by rw [← hpc]; omega⟩))).symm
            | (refine (b2_f ?_).symm
               intro q
               rcases q with q | q | q
               · exact h1 q
               · omega
               · rw [← hpc] at q
                 omega)
        · refine V.ald0 aX4_isLoggedAsPicture_25 ?_
          refine V.ald1 aX4_isLoggedAsPicture_26 ?_
          refine V.getf aX4_isLoggedAsPicture_27 fl_RX4_61 ho rfl ?_
          refine call_X4_timeToRestore aX4_isLoggedAsPicture_30 gl_RX4_87 (ok_time4 hN hE hR hZ hP (by omega)) (BM_S) (Nat.le_of_ble_eq_true rfl) (by decide) (goI ?_)
          refine V.ald1 aX4_isLoggedAsPicture_33 ?_
          refine call_X0_time aX4_isLoggedAsPicture_34 gl_RX4_130 (ok_time ho h2 (by decide)) (ho) (Nat.le_of_ble_eq_true rfl) (by decide) (goI ?_)
          refine V.iadd aX4_isLoggedAsPicture_37 (by omega) ?_
          refine V.ald2 aX4_isLoggedAsPicture_38 ?_
          refine call_X0_sizeOfPicture aX4_isLoggedAsPicture_39 gl_RX4_133 (ok_pics hv) (Nat.le_of_ble_eq_true rfl) (by decide) (goI ?_)
          refine V.icmp_le aX4_isLoggedAsPicture_42 (tgt := 49) (by decide) (fun c42 => ?_) (fun c42 => ?_)
          · refine V.iconst aX4_isLoggedAsPicture_49 (by decide) ?_
            refine V.zret aX4_isLoggedAsPicture_50 rfl (by first | decide | exact b2_01 | omega) (by decide) ?_
            refine PI.of ?_
            first
              | exact (b2_t (Or.inr (Or.inl (by omega)))).symm
              | exact (b2_t (Or.inr (Or.inr ⟨by omega, by rw [← hpc]; omega⟩))).symm
              | (refine (b2_f ?_).symm
                 intro q
                 rcases q with q | q | q
                 · exact h1 q
                 · omega
                 · rw [← hpc] at q
                   omega)
          · refine V.iconst aX4_isLoggedAsPicture_45 (by decide) ?_
            refine V.goto aX4_isLoggedAsPicture_46 (tgt := 50) (by decide) ?_
            refine V.zret aX4_isLoggedAsPicture_50 rfl (by first | decide | exact b2_01 | omega) (by decide) ?_
            refine PI.of ?_
            first
              | exact (b2_t (Or.inr (Or.inl (by omega)))).symm
              | exact (b2_t (Or.inr (Or.inr ⟨by omega, by rw [← hpc]; omega⟩))).symm
              | (refine (b2_f ?_).symm
                 intro q
                 rcases q with q | q | q
                 · exact h1 q
                 · omega
                 · rw [← hpc] at q
                   omega)
      · refine V.iconst aX4_isLoggedAsPicture_15 (by decide) ?_
        refine V.zret aX4_isLoggedAsPicture_16 rfl (by first | decide | exact b2_01 | omega) (by decide) ?_
        refine PI.of ?_
        first
          | exact (b2_t (Or.inr (Or.inl (by omega)))).symm
          | exact (b2_t (Or.inr (Or.inr ⟨by omega, by rw [← hpc]; omega⟩))).symm
          | (refine (b2_f ?_).symm
             intro q
             rcases q with q | q | q
             · exact h1 q
             · omega
             · rw [← hpc] at q
               omega)
  · have ho : (BM m B s g) e = obj 0 (fobj (w 0) 0 0 11 0 t0 0 4) := (BM_n (Or.inr (by omega))).trans h4
    refine V.ald1 aX4_isLoggedAsPicture_0 ?_
    refine V.getf aX4_isLoggedAsPicture_1 fl_RX4_66 ho rfl ?_
    refine V.if_eq aX4_isLoggedAsPicture_4 (tgt := 15) (by decide) (fun c4 => ?_) (fun c4 => ?_)
    · refine V.iconst aX4_isLoggedAsPicture_15 (by decide) ?_
      refine V.zret aX4_isLoggedAsPicture_16 rfl (by first | decide | exact b2_01 | omega) (by decide) ?_
      exact PI.of (b2_t (Or.inl h1)).symm
    · exact absurd rfl c4
theorem ok_append1 {e : Nat} (h0 : 0 ≤ s 2 ∧ s 3 ≤ 30000) (h1 : s 2 ≤ s 3) (h2 : s 3 - s 2 < 100) (hv : (e < B ∨ B + 22 ≤ e) ∧ ∃ fs, m e = obj 0 fs) : Ok G kX1_append 0 [.inr (some (B + 2)), .inr (some e)] sz (BM m B s g) 0 0 (PV sz (BM m B (upI s 3 (s 3 + 1)) (upI g (s 3 - s 2) (some e)))) := by
  refine Ok.body [some (.inr (some (B + 2))), some (.inr (some e))] rfl (Nat.le_of_ble_eq_true rfl) (by decide) ?_
  refine V.ald0 aX1_append_0 ?_
  refine U.gfL aX1_append_1 fl_RX1_24 rfl ?_
  refine V.bipush aX1_append_4 (by decide) (by decide) ?_
  refine V.icmp_ge aX1_append_6 (tgt := 29) (by decide) (fun c6 => ?_) (fun c6 => ?_)
  · exfalso
    omega
  · refine V.ald0 aX1_append_9 ?_
    refine U.gfL aX1_append_10 fl_RX1_11 rfl ?_
    refine V.ald0 aX1_append_13 ?_
    refine U.gfL aX1_append_14 fl_RX1_24 rfl ?_
    refine V.ald1 aX1_append_17 ?_
    refine U.stE aX1_append_18 (by omega) (fun v q => by cases q; exact hv) ?_
    refine V.ald0 aX1_append_19 ?_
    refine V.dup aX1_append_20 ?_
    refine U.gfL aX1_append_21 fl_RX1_24 rfl ?_
    refine V.iconst aX1_append_24 (by decide) ?_
    refine V.iadd aX1_append_25 (by omega) ?_
    refine U.pfL2 aX1_append_26 fl_RX1_24 ?_
    refine V.ret aX1_append_29 rfl (by decide) ?_
    exact PV.of (by rw [show s 2 + (s 3 - s 2 + 1) = s 3 + 1 by omega])
def ownF (s mk : Int → Int) : Int → Int := fun k => s (8 + 12 * mk 0 + k)
theorem ok_append4 {e : Nat} {mk : Int → Int} (hI : Inv C s) (hC : C + 1 ≤ 20000) (hR : EntsR Z t0 m s g) (hS : SlotsR Z m g) (hZ : B + 22 ≤ Z) (hM : entOK mk 0) (he : EntR Z t0 m e mk 0) : Ok G kX4_append 4 [.inr (some B), .inr (some e)] sz (BM m B s g) 0 0 (fun ret z m' => if fits1 s mk then PG m B Z t0 (mk 1) sz (logsF s (ownF s mk) mk) ret z m' else ret = some (.inl (-3)) ∧ z = sz ∧ ∃ s' g', m' = BM m B s' g') := by
  refine Ok.body [some (.inr (some B)), some (.inr (some e))] rfl (Nat.le_of_ble_eq_true rfl) (by decide) ?_
  have hn := hI.num
  have hN := hI.N
  have hE := hI.E
  have hsz := sizeA_b hM
  have hd := droppable_b (most := s 1 - sizeA mk 0) hN
  obtain ⟨N, hNe⟩ : ∃ N, N = droppable s (s 1 - sizeA mk 0) := ⟨_, rfl⟩
  have tI := hI.drops hd.1 hd.2
  have tu := used_drop hI hd.1 hd.2
  rw [← hNe] at hd tI tu
  obtain ⟨t, ht⟩ : ∃ t, t = dropsF s N := ⟨_, rfl⟩
  rw [← ht] at tI tu
  have t1 : t 1 = s 1 := by rw [ht]; exact dropsF_lo hE hd.1 (by omega) (by decide) (by decide)
  have t2 : t 2 = s 2 + N := by rw [ht]; exact dropsF_2
  have t3 : t 3 = s 3 := by rw [ht]; exact dropsF_lo hE hd.1 (by omega) (by decide) (by decide)
  have t5 : t 5 = s 5 := by rw [ht]; exact dropsF_lo hE hd.1 (by omega) (by decide) (by decide)
  have t6 : t 6 = s 6 := by rw [ht]; exact dropsF_lo hE hd.1 (by omega) (by decide) (by decide)
  have tub := used_b2 tI.E tI.N
  have hfit : fits1 s mk ↔ used t + sizeA mk 0 ≤ s 1 := by
    unfold fits1
    rw [← hNe, tu]
    omega
  have hpg : 0 ≤ mk 0 ∧ mk 0 < 6 := hM.1
  obtain ⟨hZe, am, va, nv, vf, ho', -⟩ := id he
  have ho2 : ∀ s' g', BM m B s' g' e = obj 0 (eobj mk 0 am va) := fun s' g' => (BM_n (Or.inr (by omega))).trans ho'
  have hval : ∀ x : Nat, (e < B ∨ B + 22 ≤ e) ∧ ∃ fs, m e = obj 0 fs := fun _ => ⟨Or.inr (by omega), _, ho'⟩
  have fin : ∀ (g1 : Int → Option Nat) (q : Int → Int), fits1 s mk → EntsR Z t0 m t g1 → SlotsR Z m g1 → (∀ j, 0 ≤ j → j < 170 → q j = logsF s (ownF s mk) mk j) → PG m B Z t0 (mk 1) sz (logsF s (ownF s mk) mk) (some (.inl (mk 1))) sz (BM m B q (upI g1 (s 3 - (s 2 + N)) (some e))) := by
    intro g1 q hf tR tS hq
    have hh := fits_held hN hE hM (by omega) hf
    have f2 := lg_2 (cl := ownF s mk) hN hM
    have f3 := logsF_3 (cl := ownF s mk) hN hE hM
    unfold logN at f2
    rw [← hNe] at f2 hh
    refine ⟨rfl, rfl, _, BM_congr (fun j j0 j1 => hq j j0 j1), fun i i0 i1 => ?_, fun i i0 i1 v hv => ?_⟩
    · rw [f2, f3] at i1
      by_cases qi : i = s 3 - (s 2 + N)
      · subst qi
        refine ⟨e, upI_s, he.congr (fun j j0 j1 => ?_)⟩
        have := lg_new (s := s) (cl := ownF s mk) hN hM (j := j) ⟨j0, j1⟩
        unfold logN at this
        rw [← hNe] at this
        rw [this, Int.zero_add]
      · obtain ⟨e1, hg1, he1⟩ := tR i i0 (by omega)
        refine ⟨e1, by rw [upI_n qi]; exact hg1, he1.congr (fun j j0 j1 => ?_)⟩
        have := lg_old (cl := ownF s mk) hN hE hM (k := s 2 + N + i) (j := j) ⟨by unfold logN; omega, by omega⟩ ⟨j0, j1⟩
        unfold logN at this
        rw [← hNe, show s 2 + N + i - (s 2 + N) = i by omega] at this
        rw [this, ht, dropsF_e hE hd.1 (by omega) (by omega) (by omega)]
        congr 1
        omega
    · by_cases qi : i = s 3 - (s 2 + N)
      · subst qi
        rw [upI_s] at hv
        cases hv
        exact ⟨hZe, _, ho'⟩
      · rw [upI_n qi] at hv
        exact tS i i0 i1 v hv
  have low : fits1 s mk → ∀ j, 0 ≤ j → j < 170 → j ≠ 3 → j ≠ 5 → j ≠ 6 → j ≠ 158 + mk 0 → t j = logsF s (ownF s mk) mk j := by
    intro hf j j0 j1 q3 q5 q6 q8
    by_cases q2 : j = 2
    · subst q2
      rw [t2, lg_2 hN hM]
      unfold logN
      rw [← hNe]
    · by_cases qa : j < 8
      · rw [lg_0 hN hE hM qa q2 q3 q5 q6, ht, dropsF_lo hE hd.1 (by omega) (by omega) q2]
      · by_cases qb : j < 152
        · rw [lg_cell hN hE hM ⟨by omega, qb⟩, ht, dropsF_lo hE hd.1 (by omega) (by omega) q2]
          by_cases qc : 8 + 12 * mk 0 ≤ j ∧ j < 8 + 12 * mk 0 + 12
          · rw [if_pos qc]
            unfold ownF
            congr 1
            omega
          · rw [if_neg qc]
        · by_cases qd : j < 158
          · rw [lg_since hN hE hM ⟨by omega, qd⟩, ht, dropsF_lo hE hd.1 (by omega) (by omega) q2]
          · by_cases qe : j < 164
            · rw [lg_doubt hN hE hM ⟨by omega, qe⟩, if_neg (fun h => q8 h.1), ht, dropsF_lo hE hd.1 (by omega) (by omega) q2]
            · rw [lg_drop hN hM ⟨by omega, j1⟩, ht]
              unfold logN
              rw [← hNe]
  have f3 := logsF_3 (cl := ownF s mk) hN hE hM
  have f5 := lg_5 (cl := ownF s mk) hN hE hM
  have f6 := lg_6 (cl := ownF s mk) hN hE hM
  refine V.ald0 aX4_append_0 ?_
  refine V.ald0 aX4_append_1 ?_
  refine U.gfS aX4_append_2 fl_RX4_20 rfl ?_
  refine U.gfL aX4_append_5 fl_RX4_153 rfl ?_
  refine V.ald1 aX4_append_8 ?_
  refine V.getf aX4_append_9 fl_RX4_156 (ho2 _ _) rfl ?_
  refine V.isub aX4_append_12 (by omega) ?_
  refine call_X4_dropDownTo aX4_append_13 gl_RX4_159 (ok_dropDown hI hR hS hZ (by omega)) (BM_S) (Nat.le_of_ble_eq_true rfl) (by decide) (fun r13 z13 m13 h13 => ?_)
  obtain ⟨rfl, rfl, g1, rfl, tR, tS⟩ := h13
  rw [← hNe, ← ht] at tR
  refine V.mem (m2 := BM m B t g1) (by rw [ht, hNe]) ?_
  refine V.pop aX4_append_16 ?_
  refine V.ald0 aX4_append_17 ?_
  refine U.gfS aX4_append_18 fl_RX4_20 rfl ?_
  refine call_X1_sizes aX4_append_21 gl_RX4_162 (ok_sizes tI.N tI.E tR hZ) (BM_L) (Nat.le_of_ble_eq_true rfl) (by decide) (goI ?_)
  refine V.ald1 aX4_append_24 ?_
  refine V.getf aX4_append_25 fl_RX4_156 (ho2 _ _) rfl ?_
  refine V.iadd aX4_append_28 (by omega) ?_
  refine V.ald0 aX4_append_29 ?_
  refine U.gfS aX4_append_30 fl_RX4_20 rfl ?_
  refine U.gfL aX4_append_33 fl_RX4_153 rfl ?_
  refine V.icmp_le aX4_append_36 (tgt := 42) (by decide) (fun c36 => ?_) (fun c36 => ?_)
  · have hf : fits1 s mk := by rw [hfit]; omega
    have hh := fits_held hN hE hM (by omega) hf
    rw [← hNe] at hh
    have lowf := low hf
    refine V.ald0 aX4_append_42 ?_
    refine U.gfS aX4_append_43 fl_RX4_20 rfl ?_
    refine V.ald1 aX4_append_46 ?_
    refine call_X1_append aX4_append_47 gl_RX4_165 (ok_append1 (by omega) (by omega) (by omega) (hval 0)) (BM_L) (Nat.le_of_ble_eq_true rfl) (by decide) (goV ?_)
    refine V.ald1 aX4_append_50 ?_
    refine V.getf aX4_append_51 fl_RX4_66 (ho2 _ _) rfl ?_
    refine V.if_ne aX4_append_54 (tgt := 83) (by decide) (fun c54 => ?_) (fun c54 => ?_)
    · refine V.ald0 aX4_append_83 ?_
      refine V.dup aX4_append_84 ?_
      refine U.gfS aX4_append_85 fl_RX4_39 rfl ?_
      first | rw [upI_n (show (5 : Int) ≠ 3 by decide), t5] | rw [upI_n (show (6 : Int) ≠ 3 by decide), t6]
      refine V.iconst aX4_append_88 (by decide) ?_
      refine V.iadd aX4_append_89 (by omega) ?_
      refine U.pfS4 aX4_append_90 fl_RX4_39 ?_
      refine V.ald1 aX4_append_93 ?_
      refine V.getf aX4_append_94 fl_RX4_66 (ho2 _ _) rfl ?_
      refine V.iret aX4_append_97 rfl (by decide) ?_
      rw [show (0 : Int) + 1 = 1 from rfl] at c54
      rw [if_pos hf, t2, t3]
      refine fin g1 _ hf tR tS (fun j j0 j1 => ?_)
      have l3 := lowf j j0 j1
      have d1 := lg_doubt (s := s) (cl := ownF s mk) (mk := mk) hN hE hM (j := 158 + mk 0) (by omega)
      have t8 : t (158 + mk 0) = s (158 + mk 0) := by rw [ht]; exact dropsF_lo hE hd.1 (by omega) (by omega) (by omega)
      by_cases q8 : j = 158 + mk 0
      · subst q8
        first
          | (rw [upI_s, d1, if_pos ⟨rfl, c54⟩])
          | (rw [upI_n (by omega), upI_n (by omega), d1, if_neg (fun h => c54 h.2), t8])
      · try rw [upI_n q8]
        by_cases q5 : j = 5
        · subst q5
          rw [f5]
          first
            | (rw [upI_s, if_pos c54])
            | (rw [upI_n (by decide), upI_n (by decide), if_neg c54, t5, Int.add_zero])
        · by_cases q6 : j = 6
          · subst q6
            rw [f6]
            first
              | (rw [upI_n (by decide), upI_n (by decide), if_pos c54, t6, Int.add_zero])
              | (rw [upI_s, if_neg c54])
          · first | rw [upI_n q5] | rw [upI_n q6]
            by_cases q3 : j = 3
            · subst q3
              rw [upI_s, f3]
            · rw [upI_n q3]
              exact l3 q3 q5 q6 q8
    · refine V.ald0 aX4_append_57 ?_
      refine V.dup aX4_append_58 ?_
      refine U.gfS aX4_append_59 fl_RX4_36 rfl ?_
      first | rw [upI_n (show (5 : Int) ≠ 3 by decide), t5] | rw [upI_n (show (6 : Int) ≠ 3 by decide), t6]
      refine V.iconst aX4_append_62 (by decide) ?_
      refine V.iadd aX4_append_63 (by omega) ?_
      refine U.pfS3 aX4_append_64 fl_RX4_36 ?_
      refine V.ald0 aX4_append_67 ?_
      refine U.gfS aX4_append_68 fl_RX4_11 rfl ?_
      refine V.ald1 aX4_append_71 ?_
      refine V.getf aX4_append_72 fl_RX4_61 (ho2 _ _) rfl ?_
      refine U.aaP aX4_append_75 (by omega) ?_
      refine V.iconst aX4_append_76 (by decide) ?_
      refine U.pfP3 aX4_append_77 fl_RX4_91 (by omega) (by omega) ?_
      refine V.goto aX4_append_80 (tgt := 93) (by decide) ?_
      refine V.ald1 aX4_append_93 ?_
      refine V.getf aX4_append_94 fl_RX4_66 (ho2 _ _) rfl ?_
      refine V.iret aX4_append_97 rfl (by decide) ?_
      rw [show (0 : Int) + 1 = 1 from rfl] at c54
      rw [if_pos hf, t2, t3]
      refine fin g1 _ hf tR tS (fun j j0 j1 => ?_)
      have l3 := lowf j j0 j1
      have d1 := lg_doubt (s := s) (cl := ownF s mk) (mk := mk) hN hE hM (j := 158 + mk 0) (by omega)
      have t8 : t (158 + mk 0) = s (158 + mk 0) := by rw [ht]; exact dropsF_lo hE hd.1 (by omega) (by omega) (by omega)
      by_cases q8 : j = 158 + mk 0
      · subst q8
        first
          | (rw [upI_s, d1, if_pos ⟨rfl, c54⟩])
          | (rw [upI_n (by omega), upI_n (by omega), d1, if_neg (fun h => c54 h.2), t8])
      · try rw [upI_n q8]
        by_cases q5 : j = 5
        · subst q5
          rw [f5]
          first
            | (rw [upI_s, if_pos c54])
            | (rw [upI_n (by decide), upI_n (by decide), if_neg c54, t5, Int.add_zero])
        · by_cases q6 : j = 6
          · subst q6
            rw [f6]
            first
              | (rw [upI_n (by decide), upI_n (by decide), if_pos c54, t6, Int.add_zero])
              | (rw [upI_s, if_neg c54])
          · first | rw [upI_n q5] | rw [upI_n q6]
            by_cases q3 : j = 3
            · subst q3
              rw [upI_s, f3]
            · rw [upI_n q3]
              exact l3 q3 q5 q6 q8
  · refine V.bipush aX4_append_39 (by decide) (by decide) ?_
    refine V.iret aX4_append_41 rfl (by decide) ?_
    rw [if_neg (show ¬ fits1 s mk by rw [hfit]; omega)]
    exact ⟨rfl, rfl, _, _, rfl⟩
end
