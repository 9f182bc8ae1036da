-- a crash
theorem needs_congr {s t : Int → Int} {p k e : Int} (h2 : t 2 = s 2) (hp : t (152 + p) = s (152 + p)) (he : ∀ j, 170 ≤ j → t j = s j) (hk : s 2 ≤ k) : needsP t p k e ↔ needsP s p k e := by
  have e0 : ofE t k 0 = ofE s k 0 := by
    dsimp only [ofE, atE]
    rw [h2]
    exact he _ (by omega)
  unfold needsP
  rw [e0, hp, start_congr h2 hp he]
theorem fN_congr {s t : Int → Int} {p e : Int} (h2 : t 2 = s 2) (hp : t (152 + p) = s (152 + p)) (he : ∀ j, 170 ≤ j → t j = s j) (hs : s 2 ≤ e) : fN t p e = fN s p e := by
  rcases fN_cases (s := s) (p := p) hs with ⟨h1, h3⟩ | ⟨h1, h3, h4⟩
  · rw [h1]
    exact fN_none (fun j j0 j1 jn => h3 j (by omega) j1 ((needs_congr h2 hp he (by omega)).mp jn)) (by omega)
  · exact fN_at ⟨by omega, h3.1⟩ ((needs_congr h2 hp he h1).mpr h3) (fun j j0 j1 jn => h4 j (by omega) j1 ((needs_congr h2 hp he (by omega)).mp jn))
theorem cpy_own {s : Int → Int} {a : Int} : cpy (r12 s a) 0 s a 12 = s := by
  funext j
  by_cases q : a ≤ j ∧ j < a + 12
  · rw [cpy_in q, r12_in (by omega)]
    congr 1
    omega
  · rw [cpy_out (by omega)]
theorem cpy_cpy {c d s : Int → Int} {a : Int} : cpy d 0 (cpy c 0 s a 12) a 12 = cpy d 0 s a 12 := by
  funext j
  by_cases q : a ≤ j ∧ j < a + 12
  · rw [cpy_in q, cpy_in q]
  · rw [cpy_out (by omega), cpy_out (by omega), cpy_out (by omega)]
theorem sndE_lt {s : Int → Int} {p : Int} {f : Nat} {e : Int} (he : s 2 ≤ e) : sndE s p (f + 1) e < e ↔ firstDam s p e ≠ -5 := by
  have hb := firstDam_b (s := s) (p := p) he
  rw [sndE]
  by_cases c : firstDam s p e = -5
  · rw [if_pos c]
    exact ⟨fun h => by omega, fun h => absurd c h⟩
  · rw [if_neg c]
    have := sndE_b (s := s) (p := p) f (firstDam s p e) (by omega)
    exact ⟨fun _ => c, fun _ => by omega⟩
theorem back_eq {r c' cl bf : Int → Int} {p z : Int} (rN : Num r) (rE : EntS r) (hp : 0 ≤ p ∧ p < 6) (hc : Eq12 (foldI (asF r p) (cpy r (80 + 12 * p) Zr 0 12) (max (fN r p (sndE r p 200 (r 3))) (r 2)) (sndE r p 200 (r 3))) c') (hz : z = if firstDam r p (r 3) = -5 then 0 else 1) : ∀ j, 0 ≤ j → j < 170 → backS r cl bf p j = upI (cpy c' 0 r (8 + 12 * p) 12) (158 + p) z j := by
  obtain ⟨n0, n1, n2, n3, n4⟩ := id rN
  have d2 : backD r p 2 = r 2 := backD_n (by omega)
  have dp : backD r p (152 + p) = r (152 + p) := backD_n (by omega)
  have de : ∀ j, 170 ≤ j → backD r p j = r j := fun j hj => backD_n (by omega)
  have hE : backE r p = sndE r p 200 (r 3) := sndE_congr d2 dp de 200 (r 3)
  have hEb := sndE_b (s := r) (p := p) 200 (r 3) (by omega)
  obtain ⟨E, hEe⟩ : ∃ E, E = sndE r p 200 (r 3) := ⟨_, rfl⟩
  rw [← hEe] at hE hEb hc
  have hb := fN_b (s := r) (p := p) hEb.1
  have hf := fN_congr (p := p) (e := E) d2 dp de hEb.1
  have hq : Eq12 (foldI (asF r p) (cpy r (80 + 12 * p) Zr 0 12) (fN r p E) E) (backQ r cl bf p).1 := by
    unfold backQ restQ
    rw [hE, rest_as (by omega), hf]
    refine asFold_congr (fun k k0 k1 => ⟨rE k (by omega) (by omega), fun j j0 j1 => ?_⟩) (fun j j0 j1 => ?_) hb.2
    · dsimp only [atE]
      rw [d2]
      exact de _ (by omega)
    · rw [cpy_in (by omega), cpy_in (by omega)]
      exact backD_n (by omega)
  rw [show max (fN r p E) (r 2) = fN r p E by omega] at hc
  intro j j0 j1
  unfold backS
  by_cases q : 8 + 12 * p ≤ j ∧ j < 8 + 12 * p + 12
  · rw [cpy_in q, upI_n (by omega), cpy_in q, hq _ (by omega) (by omega), hc _ (by omega) (by omega)]
  · rw [cpy_out (by omega)]
    by_cases q8 : j = 158 + p
    · subst q8
      rw [upI_s, hz]
      exact upI_s
    · rw [upI_n q8, cpy_out (by omega), backD_n q8]
section
variable {G : GX} {sz : Nat} {m : Mem} {B Z t0 : Nat} {s : Int → Int} {g : Int → Option Nat} {C : Int}
theorem EntsR.cut (h : EntsR Z t0 m s g) {t : Int → Int} (hN : Num s) (h2 : t 2 = s 2) (h3 : t 3 = s 4) (he : ∀ j, 170 ≤ j → t j = s j) : EntsR Z t0 m t g := by
  obtain ⟨n0, n1, n2, n3, n4⟩ := id hN
  intro i i0 i1
  rw [h2, h3] at i1
  obtain ⟨e, hg, hx⟩ := h i i0 (by omega)
  exact ⟨e, hg, hx.congr (fun j j0 j1 => he _ (by omega))⟩
theorem ok_break (cl bf : Int → Int) (hI : Inv C s) (hR : EntsR Z t0 m s g) (hZ : B + 22 ≤ Z) (ht : t0 < B) : Ok G kX4_breakDown 4 [.inr (some B)] sz (BM m B s g) 0 0 (PI (s 3 - s 4) sz (BM m B (crashF s cl bf) g)) := by
  refine Ok.body [some (.inr (some B)), none, none, none] rfl (Nat.le_of_ble_eq_true rfl) (by decide) ?_
  have hn := hI.num
  have hN := hI.N
  have loop : ∀ (n : Nat) (p : Int) (x : Option AV) (q : (Int → Int) × (Int → Int) × (Int → Int)), (6 - p).toNat < n → 0 ≤ p → p ≤ 6 → q = foldI crF (upI s 3 (s 4), cl, bf) 0 p → V G kX4_breakDown (rmM 4 0 0) (QfM G (PI (s 3 - s 4) sz (BM m B (crashF s cl bf) g)) 0 0) 10 [some (.inr (some B)), some (.inl (s 3 - s 4)), some (.inl p), x] [] sz (BM m B q.1 g) 0 0 := by
    intro n
    induction n with
    | zero => intro p x q h; omega
    | succ n ih =>
      intro p x q hn2 hp0 hp1 hq
      have hcr := crQ_ok cl bf hI p hp0 hp1
      rw [← hq] at hcr
      obtain ⟨tN, tE, rC, rD, re⟩ := hcr
      have es : foldI crF (upI s 3 (s 4), cl, bf) 0 (p + 1) = crF q p := by rw [foldI_s hp0, ← hq]
      have e7 : q.1 7 = s 7 := by rw [re 7 (by decide)]; exact upI_n (by decide)
      have r2 : q.1 2 = s 2 := by rw [re 2 (by decide)]; exact upI_n (by decide)
      have r3 : q.1 3 = s 4 := by rw [re 3 (by decide)]; exact upI_s
      have tP : PgS q.1 := fun i i0 i1 => by
        rw [re (152 + i) (by omega), upI_n (by omega)]
        exact hI.P i i0 i1
      have tR : EntsR Z t0 m q.1 g := hR.cut hN r2 r3 (fun j hj => by rw [re j (by omega)]; exact upI_n (by omega))
      obtain ⟨r, hr⟩ : ∃ r, r = q.1 := ⟨_, rfl⟩
      rw [← hr] at tN tE rC rD re r2 r3 tP tR e7 ⊢
      obtain ⟨n0, n1, n2, n3, n4⟩ := id tN
      have hEb := sndE_b (s := r) (p := p) 200 (r 3) (by omega)
      have hb := fN_b (s := r) (p := p) hEb.1
      have hlt := sndE_lt (s := r) (p := p) (f := 199) (e := r 3) (by omega)
      rw [show 199 + 1 = 200 from rfl] at hlt
      refine V.ild2 aX4_breakDown_10 ?_
      refine V.bipush aX4_breakDown_11 (by decide) (by decide) ?_
      refine V.icmp_ge aX4_breakDown_13 (tgt := 74) (by decide) (fun c13 => ?_) (fun c13 => ?_)
      · refine V.ald0 aX4_breakDown_74 ?_
        refine V.dup aX4_breakDown_75 ?_
        refine U.gfS aX4_breakDown_76 fl_RX4_42 rfl ?_
        refine V.iconst aX4_breakDown_79 (by decide) ?_
        refine V.iadd aX4_breakDown_80 (by omega) ?_
        refine U.pfS5 aX4_breakDown_81 fl_RX4_42 ?_
        refine V.ild1 aX4_breakDown_84 ?_
        refine V.iret aX4_breakDown_85 rfl (by decide) ?_
        refine PI.of2 rfl ?_
        have e6 : p = 6 := by omega
        rw [hr, hq, e6]
        rfl
      · have hpp : 0 ≤ p ∧ p < 6 := ⟨hp0, c13⟩
        have hPp := tP p hp0 c13
        refine V.ald0 aX4_breakDown_16 ?_
        refine V.ild2 aX4_breakDown_17 ?_
        refine call_X4_endOfSound aX4_breakDown_18 gl_RX4_197 (ok_endS tN tE tR hZ tP (by omega)) (BM_S) (Nat.le_of_ble_eq_true rfl) (by decide) (goI ?_)
        refine V.ist3 aX4_breakDown_21 ?_
        refine V.ald0 aX4_breakDown_22 ?_
        refine V.ild2 aX4_breakDown_23 ?_
        refine V.ald0 aX4_breakDown_24 ?_
        refine V.ild2 aX4_breakDown_25 ?_
        refine V.ild3 aX4_breakDown_26 ?_
        refine call_X4_firstNeeded aX4_breakDown_27 gl_RX4_73 (ok_firstN tN tE tR hZ hpp (by omega) (by omega) (by omega)) (BM_S) (Nat.le_of_ble_eq_true rfl) (by decide) (goI ?_)
        refine V.ild3 aX4_breakDown_30 ?_
        refine V.ald0 aX4_breakDown_31 ?_
        refine U.gfS aX4_breakDown_32 fl_RX4_11 rfl ?_
        refine V.ild2 aX4_breakDown_35 ?_
        refine U.aaP aX4_breakDown_36 (by omega) ?_
        refine U.gfP aX4_breakDown_37 fl_RX4_122 (by omega) rfl ?_
        refine V.mem (m2 := BM m B (cpy (r12 r (8 + 12 * p)) 0 r (8 + 12 * p) 12) g) (by rw [cpy_own]) ?_
        refine call_X4_replay aX4_breakDown_40 gl_RX4_118 ((ok_replay (m0 := m) (mm := fun _ => m) (ss := fun c => cpy c 0 r (8 + 12 * p) 12) tN tE rC tR hpp (by omega) (by omega) (by omega) hZ ht (fun c j hj => cpy_out hj) (fun _ => Ext.rf) (Or.inr (by omega)) (fun c c2 hc hc2 => by rw [BM_wc hpp hc2, cpy_cpy]) (fun c hc => by rw [BM_c hpp]; congr 1; funext j; by_cases w : 0 ≤ j ∧ j < 12; (rw [r12_in w, cpy_in (by omega)]; congr 1; omega); (rw [r12_out w, hc j w])) (by omega) (fun j hj => r12_out hj))) (BM_S) (Nat.le_of_ble_eq_true rfl) (by decide) (fun r40 z40 m40 h40 => ?_)
        obtain ⟨rfl, rfl, c', q1, q2, rfl⟩ := h40
        have sN : Num (cpy c' 0 r (8 + 12 * p) 12) := tN.congr (cpy_out (by omega)) (cpy_out (by omega)) (by rw [cpy_out (by omega)]; omega)
        have s3' : cpy c' 0 r (8 + 12 * p) 12 3 = r 3 := cpy_out (by omega)
        refine V.ald0 aX4_breakDown_43 ?_
        refine U.gfS aX4_breakDown_44 fl_RX4_11 rfl ?_
        refine V.ild2 aX4_breakDown_47 ?_
        refine U.aaP aX4_breakDown_48 (by omega) ?_
        refine V.ild3 aX4_breakDown_49 ?_
        refine V.ald0 aX4_breakDown_50 ?_
        refine U.gfS aX4_breakDown_51 fl_RX4_20 rfl ?_
        refine call_X1_next aX4_breakDown_54 gl_RX4_69 (ok_next sN) (BM_L) (Nat.le_of_ble_eq_true rfl) (by decide) (goI ?_)
        rw [s3']
        refine V.icmp_ge aX4_breakDown_57 (tgt := 64) (by decide) (fun c57 => ?_) (fun c57 => ?_)
        · refine V.iconst aX4_breakDown_64 (by decide) ?_
          refine U.pfP3 aX4_breakDown_65 fl_RX4_91 (by omega) (by omega) ?_
          refine V.inc2 aX4_breakDown_68 (by omega) ?_
          refine V.goto aX4_breakDown_71 (tgt := 10) (by decide) ?_
          refine V.mem (m2 := BM m B (crF q p).1 g) ?_ (ih (p + 1) _ _ (by omega) (by omega) (by omega) es.symm)
          refine BM_congr (fun j j0 j1 => ?_)
          rw [show (crF q p).1 = backS r q.2.1 q.2.2 p by rw [hr]; rfl]
          refine back_eq tN tE hpp q2 ?_ j j0 j1
          by_cases cd : firstDam r p (r 3) = -5
          · first | exact (if_pos cd).symm | (exfalso; exact absurd cd (hlt.mp (by omega)))
          · first | exact (if_neg cd).symm | (exfalso; have := hlt.mpr cd; omega)
        · refine V.iconst aX4_breakDown_60 (by decide) ?_
          refine V.goto aX4_breakDown_61 (tgt := 65) (by decide) ?_
          refine U.pfP3 aX4_breakDown_65 fl_RX4_91 (by omega) (by omega) ?_
          refine V.inc2 aX4_breakDown_68 (by omega) ?_
          refine V.goto aX4_breakDown_71 (tgt := 10) (by decide) ?_
          refine V.mem (m2 := BM m B (crF q p).1 g) ?_ (ih (p + 1) _ _ (by omega) (by omega) (by omega) es.symm)
          refine BM_congr (fun j j0 j1 => ?_)
          rw [show (crF q p).1 = backS r q.2.1 q.2.2 p by rw [hr]; rfl]
          refine back_eq tN tE hpp q2 ?_ j j0 j1
          by_cases cd : firstDam r p (r 3) = -5
          · first | exact (if_pos cd).symm | (exfalso; exact absurd cd (hlt.mp (by omega)))
          · first | exact (if_neg cd).symm | (exfalso; have := hlt.mpr cd; omega)
  refine V.ald0 aX4_breakDown_0 ?_
  refine U.gfS aX4_breakDown_1 fl_RX4_20 rfl ?_
  refine call_X1_loseUnflushed aX4_breakDown_4 gl_RX4_194 (ok_lose hN) (BM_L) (Nat.le_of_ble_eq_true rfl) (by decide) (goI ?_)
  refine V.ist1 aX4_breakDown_7 ?_
  refine V.iconst aX4_breakDown_8 (by decide) ?_
  refine V.ist2 aX4_breakDown_9 ?_
  exact loop _ 0 _ (upI s 3 (s 4), cl, bf) (Nat.lt_succ_self _) (by decide) (by decide) (foldI_0 (Int.le_refl _)).symm
end
