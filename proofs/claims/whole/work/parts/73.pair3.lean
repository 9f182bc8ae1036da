-- calls of the class beside the reference's
section
variable {G : GX} {X t0 b : Nat} {C : Int} {M : Mem} {sz : Nat}
theorem actY {s cl w v pa : Int → Int} {sv : Int} (hk : w 1 ≠ 0) (hok : entOK w 0) (e : Eq17 w v) (hf : fits1 s (doMk s Zr w)) : actZ s cl v = doMk s Zr w 1 ∧ actS s cl v = doS s Zr w ∧ actPa s cl v pa sv = recA pa sv s ∧ actSv s cl v sv = recV sv := by
  have hk2 : v 1 ≠ 0 := by rw [e 1 (by decide) (by decide)]; exact hk
  have e1 : doMk s cl v = chMk s cl v := by unfold doMk; rw [if_neg hk2]
  have e2 : doCl s cl v = chCl s cl v := by unfold doCl; rw [if_neg hk2]
  have ec := doMk_congr (s := s) (c := Zr) (d := cl) (fun _ => hok) e
  have hf2 : fits1 s (chMk s cl v) := by rw [← e1]; exact (fits_congr ec).mpr hf
  have ed := doS_congr (s := s) (c := Zr) (d := cl) (fun _ => hok) e
  have e5 : doS s cl v = actS s cl v := by unfold doS actS; rw [e1, e2]
  refine ⟨?_, e5.symm.trans ed, ?_, ?_⟩
  · unfold actZ
    rw [if_pos hf2, ← e1]
    exact ec 1 (by decide) (by decide)
  · unfold actPa; rw [if_pos hf2]
  · unfold actSv; rw [if_pos hf2]
theorem actN {s cl w v pa : Int → Int} {sv : Int} (hk : w 1 ≠ 0) (hok : entOK w 0) (e : Eq17 w v) (hf : ¬ fits1 s (doMk s Zr w)) : actZ s cl v = -3 ∧ actS s cl v = s ∧ actPa s cl v pa sv = pa ∧ actSv s cl v sv = sv := by
  have hk2 : v 1 ≠ 0 := by rw [e 1 (by decide) (by decide)]; exact hk
  have e1 : doMk s cl v = chMk s cl v := by unfold doMk; rw [if_neg hk2]
  have ec := doMk_congr (s := s) (c := Zr) (d := cl) (fun _ => hok) e
  have hf2 : ¬ fits1 s (chMk s cl v) := by rw [← e1]; exact fun g => hf ((fits_congr ec).mp g)
  refine ⟨?_, ?_, ?_, ?_⟩
  · unfold actZ; rw [if_neg hf2]
  · unfold actS; rw [if_neg hf2]
  · unfold actPa; rw [if_neg hf2]
  · unfold actSv; rw [if_neg hf2]
theorem asZ_congr {s cl : Int → Int} {r e C : Int} (hI : Inv C s) (h1 : s 2 ≤ e) (h2 : e < s 3) (ha : ¬ asA s r e) : Eq12 (asZ s Zr r e) (asZ s cl r e) := by
  have hb := asFr_b (a := 0) (s := s) (p := r) (e + 1) (by omega)
  rw [show foldI (asFrF s r) (-5) (s 2) (e + 1) = asFr s r e from rfl] at hb
  have hst := asSt_max (s := s) (p := r) (e := e) h1
  have hle : asSt s r e ≤ e + 1 := by
    rw [hst]
    by_cases c : asFr s r e = -5
    · rw [if_pos c]
      have : ¬ (e + 1 < s (152 + r)) := fun g => ha ⟨c, Or.inl g⟩
      omega
    · rw [if_neg c]; omega
  have hge : s 2 ≤ asSt s r e := by rw [hst]; omega
  exact asFold_congr (fun k k0 k1 => ⟨hI.ent (by omega) (by omega), fun _ _ _ => rfl⟩) (cpy_eq12 Zr cl) hle
theorem pair_flush (hcp : CP M X t0 C) (hC : C + 61 ≤ 20000) (hG : G.2.2.2 = t0) (hsz : X + 166 ≤ sz) (hb : b < G.2.2.1 ∧ G.2.2.1 ≤ X ∧ b ≠ t0) : Pair G kX5_flush kX6_flush [] X t0 b C M sz := by
  obtain ⟨s, pa, sv, sh, ish, tx, ln, sp, cl, bf, mk, st, M0, ⟨g, h, c, p, q, q2⟩, hM⟩ := hcp
  have hv : 0 ≤ sv ∧ sv ≤ 4 := p.sv_b
  have hI : Inv C s := p.2.1.2
  have hn := hI.num
  have hl := p.1.2.2.2.2.2.2.2.2.2.2.2
  by_cases hf : s 3 = s 4
  · skip
    exact pairMk hb hM (D := C) ⟨by omega, by omega⟩ ⟨by decide, by decide, by decide⟩ (okPost (ok5_flush1 p hf) (fun _ _ _ hd => undoneKP hd q q2)) (fun z m' => okPost (ok_flush1 hI.N hf) (fun _ _ _ hx => pxS hx))
  · skip
    exact pairMk hb hM (D := C) ⟨by omega, by omega⟩ ⟨by decide, by decide, by decide⟩ (okPost (ok5_flush2 p hf) (fun _ _ _ hd => doneKP hd hv q q2)) (fun z m' => okPost (ok_flush2 hI.N hf hv) (fun _ _ _ hx => pxS hx))
theorem pair_setWay {w : Int} (hcp : CP M X t0 C) (hC : C + 61 ≤ 20000) (hG : G.2.2.2 = t0) (hsz : X + 166 ≤ sz) (hb : b < G.2.2.1 ∧ G.2.2.1 ≤ X ∧ b ≠ t0) : Pair G kX5_setWay kX6_setWay [.inl w] X t0 b C M sz := by
  obtain ⟨s, pa, sv, sh, ish, tx, ln, sp, cl, bf, mk, st, M0, ⟨g, h, c, p, q, q2⟩, hM⟩ := hcp
  have hv : 0 ≤ sv ∧ sv ≤ 4 := p.sv_b
  have hI : Inv C s := p.2.1.2
  have hn := hI.num
  have hl := p.1.2.2.2.2.2.2.2.2.2.2.2
  by_cases hw : 0 ≤ w ∧ w ≤ 2
  · by_cases hf : s 0 = w
    · skip
      exact pairMk hb hM (D := C) ⟨by omega, by omega⟩ ⟨by decide, by decide, by decide⟩ (okPost (ok5_setWay2 p hw hf) (fun _ _ _ hd => undoneKP hd q q2)) (fun z m' => okPost (ok_setWay2 hw hf) (fun _ _ _ hx => pxS hx))
    · skip
      exact pairMk hb hM (D := C) ⟨by omega, by omega⟩ ⟨by decide, by decide, by decide⟩ (okPost (ok5_setWay3 p hw hf) (fun _ _ _ hd => doneKP hd hv q q2)) (fun z m' => okPost (ok_setWay3 hw hf hv) (fun _ _ _ hx => pxS hx))
  · skip
    exact pairMk hb hM (D := C) ⟨by omega, by omega⟩ ⟨by decide, by decide, by decide⟩ (okPost (ok5_setWay1 hw) (fun _ _ _ hd => piKP hd p q q2)) (fun z m' => okPost (ok_setWay1 hw) (fun _ _ _ hx => pxS hx))
theorem pair_trim (hcp : CP M X t0 C) (hC : C + 61 ≤ 20000) (hG : G.2.2.2 = t0) (hsz : X + 166 ≤ sz) (hb : b < G.2.2.1 ∧ G.2.2.1 ≤ X ∧ b ≠ t0) : Pair G kX5_trim kX6_trim [] X t0 b C M sz := by
  obtain ⟨s, pa, sv, sh, ish, tx, ln, sp, cl, bf, mk, st, M0, ⟨g, h, c, p, q, q2⟩, hM⟩ := hcp
  have hv : 0 ≤ sv ∧ sv ≤ 4 := p.sv_b
  have hI : Inv C s := p.2.1.2
  have hn := hI.num
  have hl := p.1.2.2.2.2.2.2.2.2.2.2.2
  by_cases hf : droppable s 0 = 0
  · skip
    exact pairMk hb hM (D := C) ⟨by omega, by omega⟩ ⟨by decide, by decide, by decide⟩ (okPost (ok5_trim1 p hf) (fun _ _ _ hd => undoneKP hd q q2)) (fun z m' => okPost (ok_trim1 hI.N hI.E hf) (fun _ _ _ hx => pxS hx))
  · skip
    exact pairMk hb hM (D := C) ⟨by omega, by omega⟩ ⟨by decide, by decide, by decide⟩ (okPost (ok5_trim2 p hf) (fun _ _ _ hd => doneKP hd hv q q2)) (fun z m' => okPost (ok_trim2 hI.N hI.E hf hv) (fun _ _ _ hx => pxS hx))
theorem pair_crash (hcp : CP M X t0 C) (hC : C + 61 ≤ 20000) (hG : G.2.2.2 = t0) (hsz : X + 166 ≤ sz) (hb : b < G.2.2.1 ∧ G.2.2.1 ≤ X ∧ b ≠ t0) : Pair G kX5_crash kX6_crash [] X t0 b C M sz := by
  obtain ⟨s, pa, sv, sh, ish, tx, ln, sp, cl, bf, mk, st, M0, ⟨g, h, c, p, q, q2⟩, hM⟩ := hcp
  have hv : 0 ≤ sv ∧ sv ≤ 4 := p.sv_b
  have hI : Inv C s := p.2.1.2
  have hn := hI.num
  have hl := p.1.2.2.2.2.2.2.2.2.2.2.2
  exact pairMk hb hM (D := C + 1) ⟨by omega, by omega⟩ ⟨by decide, by decide, by decide⟩ (okPost (ok5_crash cl bf p (by omega)) (fun _ _ _ hd => doneKP hd hv q q2)) (fun z m' => okPost (ok_crash hI.N hI.E hI.C (by omega) hv) (fun _ _ _ hx => pxS hx))
theorem pair_fill {r a e v : Int} (hcp : CP M X t0 C) (hC : C + 61 ≤ 20000) (hG : G.2.2.2 = t0) (hsz : X + 166 ≤ sz) (hb : b < G.2.2.1 ∧ G.2.2.1 ≤ X ∧ b ≠ t0) : Pair G kX5_fill kX6_fill [.inl r, .inl a, .inl e, .inl v] X t0 b C M sz := by
  obtain ⟨s, pa, sv, sh, ish, tx, ln, sp, cl, bf, mk, st, M0, ⟨g, h, c, p, q, q2⟩, hM⟩ := hcp
  have hv : 0 ≤ sv ∧ sv ≤ 4 := p.sv_b
  have hI : Inv C s := p.2.1.2
  have hn := hI.num
  have hl := p.1.2.2.2.2.2.2.2.2.2.2.2
  by_cases hw : 0 ≤ r ∧ r ≤ 5 ∧ 0 ≤ a ∧ a ≤ 11 ∧ 0 ≤ e ∧ e ≤ 11
  · by_cases h2 : a ≤ e ∧ 0 ≤ v ∧ v ≤ 9
    · have hok : entOK (mkF r 1 a (e - a + 1) v Zr) 0 := mkF_ok (by omega) (by decide) (by omega) (by omega) (by omega) (by omega) (by omega)
      have hk : (mkF r 1 a (e - a + 1) v Zr) 1 ≠ 0 := by rw [mkF_at (by decide)]; exact (show (1 : Int) ≠ 0 by decide)
      by_cases hf : fits1 s (doMk s Zr (mkF r 1 a (e - a + 1) v Zr))
      · have a := actY (cl := cl) (pa := pa) (sv := sv) hk hok (mkF_eq17 Zr mk) hf
        exact pairMk hb hM (D := C + 1) ⟨by omega, by omega⟩ ⟨by decide, by decide, by decide⟩ (okPost (ok5_fill3 p (by omega) hG hsz hw h2) (fun _ _ _ hd => doneKP (hd.1 hf) hv q q2)) (fun z m' => okPost (ok_fill3 hI hv hw h2) (fun _ _ _ hx => pxS (by rw [a.1, a.2.1, a.2.2.1, a.2.2.2] at hx; exact hx)))
      · have a := actN (cl := cl) (pa := pa) (sv := sv) hk hok (mkF_eq17 Zr mk) hf
        exact pairMk hb hM (D := C) ⟨by omega, by omega⟩ ⟨by decide, by decide, by decide⟩ (okPost (ok5_fill3 p (by omega) hG hsz hw h2) (fun _ _ _ hd => undoneKP (hd.2 hf) q q2)) (fun z m' => okPost (ok_fill3 hI hv hw h2) (fun _ _ _ hx => pxS (by rw [a.1, a.2.1, a.2.2.1, a.2.2.2] at hx; exact hx)))
    · skip
      exact pairMk hb hM (D := C) ⟨by omega, by omega⟩ ⟨by decide, by decide, by decide⟩ (okPost (ok5_fill2 hw (by omega)) (fun _ _ _ hd => piKP hd p q q2)) (fun z m' => okPost (ok_fill2 hw (by omega)) (fun _ _ _ hx => pxS hx))
  · skip
    exact pairMk hb hM (D := C) ⟨by omega, by omega⟩ ⟨by decide, by decide, by decide⟩ (okPost (ok5_fill1 hw) (fun _ _ _ hd => piKP hd p q q2)) (fun z m' => okPost (ok_fill1 hw) (fun _ _ _ hx => pxS hx))
theorem pair_add {r a e v : Int} (hcp : CP M X t0 C) (hC : C + 61 ≤ 20000) (hG : G.2.2.2 = t0) (hsz : X + 166 ≤ sz) (hb : b < G.2.2.1 ∧ G.2.2.1 ≤ X ∧ b ≠ t0) : Pair G kX5_add kX6_add [.inl r, .inl a, .inl e, .inl v] X t0 b C M sz := by
  obtain ⟨s, pa, sv, sh, ish, tx, ln, sp, cl, bf, mk, st, M0, ⟨g, h, c, p, q, q2⟩, hM⟩ := hcp
  have hv : 0 ≤ sv ∧ sv ≤ 4 := p.sv_b
  have hI : Inv C s := p.2.1.2
  have hn := hI.num
  have hl := p.1.2.2.2.2.2.2.2.2.2.2.2
  by_cases hw : 0 ≤ r ∧ r ≤ 5 ∧ 0 ≤ a ∧ a ≤ 11 ∧ 0 ≤ e ∧ e ≤ 11
  · by_cases h2 : a ≤ e ∧ 1 ≤ v ∧ v ≤ 9
    · have hok : entOK (mkF r 2 a (e - a + 1) v Zr) 0 := mkF_ok (by omega) (by decide) (by omega) (by omega) (by omega) (by omega) (by omega)
      have hk : (mkF r 2 a (e - a + 1) v Zr) 1 ≠ 0 := by rw [mkF_at (by decide)]; exact (show (2 : Int) ≠ 0 by decide)
      by_cases hf : fits1 s (doMk s Zr (mkF r 2 a (e - a + 1) v Zr))
      · have a := actY (cl := cl) (pa := pa) (sv := sv) hk hok (mkF_eq17 Zr mk) hf
        exact pairMk hb hM (D := C + 1) ⟨by omega, by omega⟩ ⟨by decide, by decide, by decide⟩ (okPost (ok5_add3 p (by omega) hG hsz hw h2) (fun _ _ _ hd => doneKP (hd.1 hf) hv q q2)) (fun z m' => okPost (ok_add3 hI hv hw h2) (fun _ _ _ hx => pxS (by rw [a.1, a.2.1, a.2.2.1, a.2.2.2] at hx; exact hx)))
      · have a := actN (cl := cl) (pa := pa) (sv := sv) hk hok (mkF_eq17 Zr mk) hf
        exact pairMk hb hM (D := C) ⟨by omega, by omega⟩ ⟨by decide, by decide, by decide⟩ (okPost (ok5_add3 p (by omega) hG hsz hw h2) (fun _ _ _ hd => undoneKP (hd.2 hf) q q2)) (fun z m' => okPost (ok_add3 hI hv hw h2) (fun _ _ _ hx => pxS (by rw [a.1, a.2.1, a.2.2.1, a.2.2.2] at hx; exact hx)))
    · skip
      exact pairMk hb hM (D := C) ⟨by omega, by omega⟩ ⟨by decide, by decide, by decide⟩ (okPost (ok5_add2 hw (by omega)) (fun _ _ _ hd => piKP hd p q q2)) (fun z m' => okPost (ok_add2 hw (by omega)) (fun _ _ _ hx => pxS hx))
  · skip
    exact pairMk hb hM (D := C) ⟨by omega, by omega⟩ ⟨by decide, by decide, by decide⟩ (okPost (ok5_add1 hw) (fun _ _ _ hd => piKP hd p q q2)) (fun z m' => okPost (ok_add1 hw) (fun _ _ _ hx => pxS hx))
theorem pair_turn {r v : Int} (hcp : CP M X t0 C) (hC : C + 61 ≤ 20000) (hG : G.2.2.2 = t0) (hsz : X + 166 ≤ sz) (hb : b < G.2.2.1 ∧ G.2.2.1 ≤ X ∧ b ≠ t0) : Pair G kX5_turn kX6_turn [.inl r, .inl v] X t0 b C M sz := by
  obtain ⟨s, pa, sv, sh, ish, tx, ln, sp, cl, bf, mk, st, M0, ⟨g, h, c, p, q, q2⟩, hM⟩ := hcp
  have hv : 0 ≤ sv ∧ sv ≤ 4 := p.sv_b
  have hI : Inv C s := p.2.1.2
  have hn := hI.num
  have hl := p.1.2.2.2.2.2.2.2.2.2.2.2
  by_cases hw : 0 ≤ r ∧ r ≤ 5
  · by_cases h2 : 1 ≤ v ∧ v ≤ 11
    · have hok : entOK (mkF r 3 0 12 v Zr) 0 := mkF_ok (by omega) (by decide) (by omega) (by omega) (by omega) (by omega) (by omega)
      have hk : (mkF r 3 0 12 v Zr) 1 ≠ 0 := by rw [mkF_at (by decide)]; exact (show (3 : Int) ≠ 0 by decide)
      by_cases hf : fits1 s (doMk s Zr (mkF r 3 0 12 v Zr))
      · have a := actY (cl := cl) (pa := pa) (sv := sv) hk hok (mkF_eq17 Zr mk) hf
        exact pairMk hb hM (D := C + 1) ⟨by omega, by omega⟩ ⟨by decide, by decide, by decide⟩ (okPost (ok5_turn3 p (by omega) hG hsz hw h2) (fun _ _ _ hd => doneKP (hd.1 hf) hv q q2)) (fun z m' => okPost (ok_turn3 hI hv hw h2) (fun _ _ _ hx => pxS (by rw [a.1, a.2.1, a.2.2.1, a.2.2.2] at hx; exact hx)))
      · have a := actN (cl := cl) (pa := pa) (sv := sv) hk hok (mkF_eq17 Zr mk) hf
        exact pairMk hb hM (D := C) ⟨by omega, by omega⟩ ⟨by decide, by decide, by decide⟩ (okPost (ok5_turn3 p (by omega) hG hsz hw h2) (fun _ _ _ hd => undoneKP (hd.2 hf) q q2)) (fun z m' => okPost (ok_turn3 hI hv hw h2) (fun _ _ _ hx => pxS (by rw [a.1, a.2.1, a.2.2.1, a.2.2.2] at hx; exact hx)))
    · skip
      exact pairMk hb hM (D := C) ⟨by omega, by omega⟩ ⟨by decide, by decide, by decide⟩ (okPost (ok5_turn2 hw h2) (fun _ _ _ hd => piKP hd p q q2)) (fun z m' => okPost (ok_turn2 hw h2) (fun _ _ _ hx => pxS hx))
  · skip
    exact pairMk hb hM (D := C) ⟨by omega, by omega⟩ ⟨by decide, by decide, by decide⟩ (okPost (ok5_turn1 hw) (fun _ _ _ hd => piKP hd p q q2)) (fun z m' => okPost (ok_turn1 hw) (fun _ _ _ hx => pxS hx))
theorem pair_renew {r : Int} (hcp : CP M X t0 C) (hC : C + 61 ≤ 20000) (hG : G.2.2.2 = t0) (hsz : X + 166 ≤ sz) (hb : b < G.2.2.1 ∧ G.2.2.1 ≤ X ∧ b ≠ t0) : Pair G kX5_renew kX6_renew [.inl r] X t0 b C M sz := by
  obtain ⟨s, pa, sv, sh, ish, tx, ln, sp, cl, bf, mk, st, M0, ⟨g, h, c, p, q, q2⟩, hM⟩ := hcp
  have hv : 0 ≤ sv ∧ sv ≤ 4 := p.sv_b
  have hI : Inv C s := p.2.1.2
  have hn := hI.num
  have hl := p.1.2.2.2.2.2.2.2.2.2.2.2
  by_cases hw : 0 ≤ r ∧ r ≤ 5
  · have k1 : mkF r 0 0 12 0 Zr 1 = 0 := by rw [mkF_at (by decide)]; rfl
    have k0 : mkF r 0 0 12 0 Zr 0 = r := by rw [mkF_at (by decide)]; rfl
    have e1 : doMk s Zr (mkF r 0 0 12 0 Zr) = renMk s Zr (mkF r 0 0 12 0 Zr) r := by unfold doMk; rw [if_pos k1, k0]
    have e2 : doCl s Zr (mkF r 0 0 12 0 Zr) = renCl s Zr r := by unfold doCl; rw [if_pos k1, k0]
    have ec : Eq17 (doMk s Zr (mkF r 0 0 12 0 Zr)) (renMk s cl mk r) := by rw [e1]; exact renMk_congr r
    by_cases hf : fits1 s (doMk s Zr (mkF r 0 0 12 0 Zr))
    · have e3 : logsF s (renCl s cl r) (renMk s cl mk r) = doS s Zr (mkF r 0 0 12 0 Zr) := by
        unfold doS
        rw [if_pos hf, e2]
        exact logsF_congr (cpy_eq12 Zr cl) ec
      exact pairMk hb hM (D := C + 1) ⟨by omega, by omega⟩ ⟨by decide, by decide, by decide⟩ (okPost (ok5_renew2 p (by omega) hG hsz hw) (fun _ _ _ hd => doneKP (hd.1 hf) hv q q2)) (fun z m' => okPost (ok_renew3 hI hv hw ((fits_congr ec).mpr hf)) (fun _ _ _ hx => pxS (by rw [e3] at hx; exact hx)))
    · skip
      exact pairMk hb hM (D := C) ⟨by omega, by omega⟩ ⟨by decide, by decide, by decide⟩ (okPost (ok5_renew2 p (by omega) hG hsz hw) (fun _ _ _ hd => undoneKP (hd.2 hf) q q2)) (fun z m' => okPost (ok_renew2 hI hv hw (fun g => hf ((fits_congr ec).mp g))) (fun _ _ _ hx => pxS hx))
  · skip
    exact pairMk hb hM (D := C) ⟨by omega, by omega⟩ ⟨by decide, by decide, by decide⟩ (okPost (ok5_renew1 hw) (fun _ _ _ hd => piKP hd p q q2)) (fun z m' => okPost (ok_renew1 hw) (fun _ _ _ hx => pxS hx))
theorem pair_readOrders (hcp : CP M X t0 C) (hC : C + 61 ≤ 20000) (hG : G.2.2.2 = t0) (hsz : X + 166 ≤ sz) (hb : b < G.2.2.1 ∧ G.2.2.1 ≤ X ∧ b ≠ t0) : Pair G kX5_readOrders kX6_readOrders [] X t0 b C M sz := by
  obtain ⟨s, pa, sv, sh, ish, tx, ln, sp, cl, bf, mk, st, M0, ⟨g, h, c, p, q, q2⟩, hM⟩ := hcp
  have hv : 0 ≤ sv ∧ sv ≤ 4 := p.sv_b
  have hI : Inv C s := p.2.1.2
  have hn := hI.num
  have hl := p.1.2.2.2.2.2.2.2.2.2.2.2
  rcases txtP_01 (tx := tx) (ln := ln) 100 Zr 0 with ht | ht
  · skip
    exact pairMk hb hM (D := C) ⟨by omega, by omega⟩ ⟨by decide, by decide, by decide⟩ (okPost (ok5_orders p (by omega) hG hsz) (fun _ _ _ hd => keptKP (hd.1 ht) q q2)) (fun z m' => okPost (ok_readOrders1 ⟨hl.1, hl.2.1⟩ ht) (fun _ _ _ hx => pxS hx))
  · cases ho : ordsP tx ln 100 s 0 with
    | none =>
      exact pairMk hb hM (D := C + 21) ⟨by omega, by omega⟩ ⟨by decide, by decide, by decide⟩ (okPost (ok5_orders p (by omega) hG hsz) (fun _ _ _ hd => undoneKP (by have x := hd.2 ht; unfold ordersR at x; rw [ho] at x; exact x) q q2)) (fun z m' => okPost (ok_readOrders2 hI (by omega) hv ⟨hl.1, hl.2.1⟩ ht) (fun _ _ _ hx => (by rw [ho] at hx; exact hx)))
    | some t =>
      exact pairMk hb hM (D := C + 21) ⟨by omega, by omega⟩ ⟨by decide, by decide, by decide⟩ (okPost (ok5_orders p (by omega) hG hsz) (fun _ _ _ hd => doneKP (by have x := hd.2 ht; unfold ordersR at x; rw [ho] at x; exact x.2) hv q q2)) (fun z m' => okPost (ok_readOrders2 hI (by omega) hv ⟨hl.1, hl.2.1⟩ ht) (fun _ _ _ hx => pxS (by rw [ho] at hx; exact hx)))
theorem pair_store {r : Int} (hcp : CP M X t0 C) (hC : C + 61 ≤ 20000) (hG : G.2.2.2 = t0) (hsz : X + 166 ≤ sz) (hb : b < G.2.2.1 ∧ G.2.2.1 ≤ X ∧ b ≠ t0) : Pair G kX5_store kX6_store [.inl r] X t0 b C M sz := by
  obtain ⟨s, pa, sv, sh, ish, tx, ln, sp, cl, bf, mk, st, M0, ⟨g, h, c, p, q, q2⟩, hM⟩ := hcp
  have hv : 0 ≤ sv ∧ sv ≤ 4 := p.sv_b
  have hI : Inv C s := p.2.1.2
  have hn := hI.num
  have hl := p.1.2.2.2.2.2.2.2.2.2.2.2
  by_cases hw : 0 ≤ r ∧ r ≤ 5
  · by_cases hx : ∃ j, s 4 ≤ j ∧ j < s 3 ∧ ofE s j 0 = r
    · obtain ⟨j, hj⟩ := hx
      exact pairMk hb hM (D := C) ⟨by omega, by omega⟩ ⟨by decide, by decide, by decide⟩ (okPost (ok5_store2 p hw hj) (fun _ _ _ hd => undoneKP hd q q2)) (fun z m' => okPost (ok_store2 hI.N hw hj) (fun _ _ _ hx => pxS hx))
    · have hj : ∀ j, s 4 ≤ j → j < s 3 → ofE s j 0 ≠ r := fun j j0 j1 j2 => hx ⟨j, j0, j1, j2⟩
      exact pairMk hb hM (D := C) ⟨by omega, by omega⟩ ⟨by decide, by decide, by decide⟩ (okPost (ok5_store3 p hw hj) (fun _ _ _ hd => doneKP hd hv q q2)) (fun z m' => okPost (ok_store3 hI.N hI.E hw hj hv) (fun _ _ _ hx => pxS hx))
  · skip
    exact pairMk hb hM (D := C) ⟨by omega, by omega⟩ ⟨by decide, by decide, by decide⟩ (okPost (ok5_store1 hw) (fun _ _ _ hd => piKP hd p q q2)) (fun z m' => okPost (ok_store1 hw) (fun _ _ _ hx => pxS hx))
theorem pair_damage {r : Int} (hcp : CP M X t0 C) (hC : C + 61 ≤ 20000) (hG : G.2.2.2 = t0) (hsz : X + 166 ≤ sz) (hb : b < G.2.2.1 ∧ G.2.2.1 ≤ X ∧ b ≠ t0) : Pair G kX5_damage kX6_damage [.inl r] X t0 b C M sz := by
  obtain ⟨s, pa, sv, sh, ish, tx, ln, sp, cl, bf, mk, st, M0, ⟨g, h, c, p, q, q2⟩, hM⟩ := hcp
  have hv : 0 ≤ sv ∧ sv ≤ 4 := p.sv_b
  have hI : Inv C s := p.2.1.2
  have hn := hI.num
  have hl := p.1.2.2.2.2.2.2.2.2.2.2.2
  by_cases hw : s 2 ≤ r ∧ r ≤ s 3 - 1
  · by_cases h4 : ofE s r 4 = 1
    · skip
      exact pairMk hb hM (D := C) ⟨by omega, by omega⟩ ⟨by decide, by decide, by decide⟩ (okPost (ok5_damage2 p hw h4) (fun _ _ _ hd => undoneKP hd q q2)) (fun z m' => okPost (ok_damage2 hI.N hw h4) (fun _ _ _ hx => pxS hx))
    · skip
      exact pairMk hb hM (D := C) ⟨by omega, by omega⟩ ⟨by decide, by decide, by decide⟩ (okPost (ok5_damage3 p hsz hw h4) (fun _ _ _ hd => doneKP hd hv q q2)) (fun z m' => okPost (ok_damage3 hI.N hw h4 hv) (fun _ _ _ hx => pxS hx))
  · skip
    exact pairMk hb hM (D := C) ⟨by omega, by omega⟩ ⟨by decide, by decide, by decide⟩ (okPost (ok5_damage1 p hw) (fun _ _ _ hd => piKP hd p q q2)) (fun z m' => okPost (ok_damage1 hI.N hw) (fun _ _ _ hx => pxS hx))
theorem pair_setRoom {r : Int} (hcp : CP M X t0 C) (hC : C + 61 ≤ 20000) (hG : G.2.2.2 = t0) (hsz : X + 166 ≤ sz) (hb : b < G.2.2.1 ∧ G.2.2.1 ≤ X ∧ b ≠ t0) : Pair G kX5_setRoom kX6_setRoom [.inl r] X t0 b C M sz := by
  obtain ⟨s, pa, sv, sh, ish, tx, ln, sp, cl, bf, mk, st, M0, ⟨g, h, c, p, q, q2⟩, hM⟩ := hcp
  have hv : 0 ≤ sv ∧ sv ≤ 4 := p.sv_b
  have hI : Inv C s := p.2.1.2
  have hn := hI.num
  have hl := p.1.2.2.2.2.2.2.2.2.2.2.2
  by_cases hw : 30 ≤ r ∧ r ≤ 300
  · by_cases h2 : r < usedW s (droppable s r)
    · skip
      exact pairMk hb hM (D := C) ⟨by omega, by omega⟩ ⟨by decide, by decide, by decide⟩ (okPost (ok5_setRoom2 p hw (z := -4) (if_pos h2).symm (Or.inl h2)) (fun _ _ _ hd => undoneKP hd q q2)) (fun z m' => okPost (ok_setRoom2 hI.N hI.E hw h2) (fun _ _ _ hx => pxS hx))
    · by_cases h1 : s 1 = r
      · skip
        exact pairMk hb hM (D := C) ⟨by omega, by omega⟩ ⟨by decide, by decide, by decide⟩ (okPost (ok5_setRoom2 p hw (z := -5) (if_neg h2).symm (Or.inr h1)) (fun _ _ _ hd => undoneKP hd q q2)) (fun z m' => okPost (ok_setRoom3 hI.N hI.E hw (by omega) h1) (fun _ _ _ hx => pxS hx))
      · skip
        exact pairMk hb hM (D := C) ⟨by omega, by omega⟩ ⟨by decide, by decide, by decide⟩ (okPost (ok5_setRoom3 p hw (show usedW s (droppable s r) ≤ r by omega) h1) (fun _ _ _ hd => doneKP hd hv q q2)) (fun z m' => okPost (ok_setRoom4 hI.N hI.E hw (by omega) h1 hv) (fun _ _ _ hx => pxS hx))
  · skip
    exact pairMk hb hM (D := C) ⟨by omega, by omega⟩ ⟨by decide, by decide, by decide⟩ (okPost (ok5_setRoom1 hw) (fun _ _ _ hd => piKP hd p q q2)) (fun z m' => okPost (ok_setRoom1 hw) (fun _ _ _ hx => pxS hx))
theorem pair_type {ch : Int} (hch : 0 ≤ ch ∧ ch < 65536) (hcp : CP M X t0 C) (hC : C + 61 ≤ 20000) (hG : G.2.2.2 = t0) (hsz : X + 166 ≤ sz) (hb : b < G.2.2.1 ∧ G.2.2.1 ≤ X ∧ b ≠ t0) : Pair G kX5_type kX6_type [.inl ch] X t0 b C M sz := by
  obtain ⟨s, pa, sv, sh, ish, tx, ln, sp, cl, bf, mk, st, M0, ⟨g, h, c, p, q, q2⟩, hM⟩ := hcp
  have hv : 0 ≤ sv ∧ sv ≤ 4 := p.sv_b
  have hI : Inv C s := p.2.1.2
  have hn := hI.num
  have hl := p.1.2.2.2.2.2.2.2.2.2.2.2
  by_cases hf : ln = 60
  · skip
    exact pairMk hb hM (D := C) ⟨by omega, by omega⟩ ⟨by decide, by decide, by decide⟩ (okPost (ok5_type1 p hf) (fun _ _ _ hd => piKP hd p q q2)) (fun z m' => okPost (ok_type1 hf) (fun _ _ _ hx => pxS hx))
  · skip
    exact pairMk hb hM (D := C) ⟨by omega, by omega⟩ ⟨by decide, by decide, by decide⟩ (okPost (ok5_type2 p (by omega) hch) (fun _ _ _ hd => ⟨hd.1, by omega, g, h, c, hd.2.2, q, q2⟩)) (fun z m' => okPost (ok_type2 (by omega) hch) (fun _ _ _ hx => pxS hx))
theorem pair_clearText (hcp : CP M X t0 C) (hC : C + 61 ≤ 20000) (hG : G.2.2.2 = t0) (hsz : X + 166 ≤ sz) (hb : b < G.2.2.1 ∧ G.2.2.1 ≤ X ∧ b ≠ t0) : Pair G kX5_clearText kX6_clearText [] X t0 b C M sz := by
  obtain ⟨s, pa, sv, sh, ish, tx, ln, sp, cl, bf, mk, st, M0, ⟨g, h, c, p, q, q2⟩, hM⟩ := hcp
  have hv : 0 ≤ sv ∧ sv ≤ 4 := p.sv_b
  have hI : Inv C s := p.2.1.2
  have hn := hI.num
  have hl := p.1.2.2.2.2.2.2.2.2.2.2.2
  exact pairMk hb hM (D := C) ⟨by omega, by omega⟩ ⟨by decide, by decide, by decide⟩ (okPost (ok5_clearText p) (fun _ _ _ hd => ⟨hd.1, by omega, g, h, c, hd.2.2, q, q2⟩)) (fun z m' => okPost (ok_clearText) (fun _ _ _ hx => pxS hx))
theorem pair_undo (hcp : CP M X t0 C) (hC : C + 61 ≤ 20000) (hG : G.2.2.2 = t0) (hsz : X + 166 ≤ sz) (hb : b < G.2.2.1 ∧ G.2.2.1 ≤ X ∧ b ≠ t0) : Pair G kX5_undo kX6_undo [] X t0 b C M sz := by
  obtain ⟨s, pa, sv, sh, ish, tx, ln, sp, cl, bf, mk, st, M0, ⟨g, h, c, p, q, q2⟩, hM⟩ := hcp
  have hv : 0 ≤ sv ∧ sv ≤ 4 := p.sv_b
  have hI : Inv C s := p.2.1.2
  have hn := hI.num
  have hl := p.1.2.2.2.2.2.2.2.2.2.2.2
  by_cases hf : sv = 0
  · skip
    exact pairMk hb hM (D := C) ⟨by omega, by omega⟩ ⟨by decide, by decide, by decide⟩ (okPost (ok5_undo1 p hf) (fun _ _ _ hd => piKP hd p q q2)) (fun z m' => okPost (ok_undo1 hf) (fun _ _ _ hx => pxS hx))
  · skip
    exact pairMk hb hM (D := C) ⟨by omega, by omega⟩ ⟨by decide, by decide, by decide⟩ (okPost (ok5_undo2 p (by omega)) (fun _ _ _ hd => ⟨hd.1, by omega, hd.2.2.choose, h, c, hd.2.2.choose_spec, fun i i0 i1 => q i i0 (by omega), q2⟩)) (fun z m' => okPost (ok_undo2 (by omega)) (fun _ _ _ hx => ⟨_, fun j j0 j1 => by rw [cpy_in (by omega), q (sv - 1) (by omega) (by omega) j j0 j1]; show pa _ = pa _; congr 1; omega, hx⟩))
theorem pair_keep (hcp : CP M X t0 C) (hC : C + 61 ≤ 20000) (hG : G.2.2.2 = t0) (hsz : X + 166 ≤ sz) (hb : b < G.2.2.1 ∧ G.2.2.1 ≤ X ∧ b ≠ t0) : Pair G kX5_keep kX6_keep [] X t0 b C M sz := by
  obtain ⟨s, pa, sv, sh, ish, tx, ln, sp, cl, bf, mk, st, M0, ⟨g, h, c, p, q, q2⟩, hM⟩ := hcp
  have hv : 0 ≤ sv ∧ sv ≤ 4 := p.sv_b
  have hI : Inv C s := p.2.1.2
  have hn := hI.num
  have hl := p.1.2.2.2.2.2.2.2.2.2.2.2
  exact pairMk hb hM (D := C) ⟨by omega, by omega⟩ ⟨by decide, by decide, by decide⟩ (okPost (ok5_keep p) (fun _ _ _ hd => ⟨hd.1, by omega, g, h, (s, hd.2.2.choose), hd.2.2.choose_spec, q, fun _ j j0 j1 => by rw [cpy_in (by omega)]; show s j = s _; congr 1; omega⟩)) (fun z m' => okPost (ok_keep) (fun _ _ _ hx => pxS hx))
theorem pair_restore (hcp : CP M X t0 C) (hC : C + 61 ≤ 20000) (hG : G.2.2.2 = t0) (hsz : X + 166 ≤ sz) (hb : b < G.2.2.1 ∧ G.2.2.1 ≤ X ∧ b ≠ t0) : Pair G kX5_restore kX6_restore [] X t0 b C M sz := by
  obtain ⟨s, pa, sv, sh, ish, tx, ln, sp, cl, bf, mk, st, M0, ⟨g, h, c, p, q, q2⟩, hM⟩ := hcp
  have hv : 0 ≤ sv ∧ sv ≤ 4 := p.sv_b
  have hI : Inv C s := p.2.1.2
  have hn := hI.num
  have hl := p.1.2.2.2.2.2.2.2.2.2.2.2
  by_cases hf : ish = 0
  · skip
    exact pairMk hb hM (D := C) ⟨by omega, by omega⟩ ⟨by decide, by decide, by decide⟩ (okPost (ok5_restore1 p hf) (fun _ _ _ hd => piKP hd p q q2)) (fun z m' => okPost (ok_restore1 hf) (fun _ _ _ hx => pxS hx))
  · have e3 : c.1 3 = sh 3 := q2 hf 3 (by decide) (by decide)
    exact pairMk hb hM (D := C) ⟨by omega, by omega⟩ ⟨by decide, by decide, by decide⟩ (okPost (ok5_restore2 p hf) (fun _ _ _ hd => doneKP hd hv q q2)) (fun z m' => okPost (ok_restore2 hf hv) (fun _ _ _ hx => ⟨cpy sh 0 s 0 1870, fun j j0 j1 => by rw [cpy_in (by omega), q2 hf j j0 j1]; congr 1; omega, by rw [e3]; exact hx⟩))
theorem pair_cell {r e : Int} (hcp : CP M X t0 C) (hC : C + 61 ≤ 20000) (hG : G.2.2.2 = t0) (hsz : X + 166 ≤ sz) (hb : b < G.2.2.1 ∧ G.2.2.1 ≤ X ∧ b ≠ t0) : Pair G kX5_cell kX6_cell [.inl r, .inl e] X t0 b C M sz := by
  obtain ⟨s, pa, sv, sh, ish, tx, ln, sp, cl, bf, mk, st, M0, ⟨g, h, c, p, q, q2⟩, hM⟩ := hcp
  have hv : 0 ≤ sv ∧ sv ≤ 4 := p.sv_b
  have hI : Inv C s := p.2.1.2
  have hn := hI.num
  have hl := p.1.2.2.2.2.2.2.2.2.2.2.2
  by_cases hw : 0 ≤ r ∧ r ≤ 5 ∧ 0 ≤ e ∧ e ≤ 11
  · skip
    exact pairMk hb hM (D := C) ⟨by omega, by omega⟩ ⟨by decide, by decide, by decide⟩ (okPost (ok5_cell2 p hw) (fun _ _ _ hd => piKP hd p q q2)) (fun z m' => okPost (ok_cell2 hw) (fun _ _ _ hx => pxS hx))
  · skip
    exact pairMk hb hM (D := C) ⟨by omega, by omega⟩ ⟨by decide, by decide, by decide⟩ (okPost (ok5_cell1 hw) (fun _ _ _ hd => piKP hd p q q2)) (fun z m' => okPost (ok_cell1 hw) (fun _ _ _ hx => pxS hx))
theorem pair_stored {r e : Int} (hcp : CP M X t0 C) (hC : C + 61 ≤ 20000) (hG : G.2.2.2 = t0) (hsz : X + 166 ≤ sz) (hb : b < G.2.2.1 ∧ G.2.2.1 ≤ X ∧ b ≠ t0) : Pair G kX5_stored kX6_stored [.inl r, .inl e] X t0 b C M sz := by
  obtain ⟨s, pa, sv, sh, ish, tx, ln, sp, cl, bf, mk, st, M0, ⟨g, h, c, p, q, q2⟩, hM⟩ := hcp
  have hv : 0 ≤ sv ∧ sv ≤ 4 := p.sv_b
  have hI : Inv C s := p.2.1.2
  have hn := hI.num
  have hl := p.1.2.2.2.2.2.2.2.2.2.2.2
  by_cases hw : 0 ≤ r ∧ r ≤ 5 ∧ 0 ≤ e ∧ e ≤ 11
  · skip
    exact pairMk hb hM (D := C) ⟨by omega, by omega⟩ ⟨by decide, by decide, by decide⟩ (okPost (ok5_stored2 p hw) (fun _ _ _ hd => piKP hd p q q2)) (fun z m' => okPost (ok_stored2 hw) (fun _ _ _ hx => pxS hx))
  · skip
    exact pairMk hb hM (D := C) ⟨by omega, by omega⟩ ⟨by decide, by decide, by decide⟩ (okPost (ok5_stored1 hw) (fun _ _ _ hd => piKP hd p q q2)) (fun z m' => okPost (ok_stored1 hw) (fun _ _ _ hx => pxS hx))
theorem pair_page {r w : Int} (hcp : CP M X t0 C) (hC : C + 61 ≤ 20000) (hG : G.2.2.2 = t0) (hsz : X + 166 ≤ sz) (hb : b < G.2.2.1 ∧ G.2.2.1 ≤ X ∧ b ≠ t0) : Pair G kX5_page kX6_page [.inl r, .inl w] X t0 b C M sz := by
  obtain ⟨s, pa, sv, sh, ish, tx, ln, sp, cl, bf, mk, st, M0, ⟨g, h, c, p, q, q2⟩, hM⟩ := hcp
  have hv : 0 ≤ sv ∧ sv ≤ 4 := p.sv_b
  have hI : Inv C s := p.2.1.2
  have hn := hI.num
  have hl := p.1.2.2.2.2.2.2.2.2.2.2.2
  by_cases hw : 0 ≤ r ∧ r ≤ 5
  · skip
    exact pairMk hb hM (D := C) ⟨by omega, by omega⟩ ⟨by decide, by decide, by decide⟩ (okPost (ok5_page2 p hw) (fun _ _ _ hd => piKP hd p q q2)) (fun z m' => okPost (ok_page2 hI.N hI.E hw) (fun _ _ _ hx => pxS hx))
  · skip
    exact pairMk hb hM (D := C) ⟨by omega, by omega⟩ ⟨by decide, by decide, by decide⟩ (okPost (ok5_page1 hw) (fun _ _ _ hd => piKP hd p q q2)) (fun z m' => okPost (ok_page1 hw) (fun _ _ _ hx => pxS hx))
theorem pair_entry {r w : Int} (hcp : CP M X t0 C) (hC : C + 61 ≤ 20000) (hG : G.2.2.2 = t0) (hsz : X + 166 ≤ sz) (hb : b < G.2.2.1 ∧ G.2.2.1 ≤ X ∧ b ≠ t0) : Pair G kX5_entry kX6_entry [.inl r, .inl w] X t0 b C M sz := by
  obtain ⟨s, pa, sv, sh, ish, tx, ln, sp, cl, bf, mk, st, M0, ⟨g, h, c, p, q, q2⟩, hM⟩ := hcp
  have hv : 0 ≤ sv ∧ sv ≤ 4 := p.sv_b
  have hI : Inv C s := p.2.1.2
  have hn := hI.num
  have hl := p.1.2.2.2.2.2.2.2.2.2.2.2
  by_cases hw : s 2 ≤ r ∧ r ≤ s 3 - 1
  · skip
    exact pairMk hb hM (D := C) ⟨by omega, by omega⟩ ⟨by decide, by decide, by decide⟩ (okPost (ok5_entry2 p hw) (fun _ _ _ hd => piKP hd p q q2)) (fun z m' => okPost (ok_entry2 hI.N hI.E hw) (fun _ _ _ hx => pxS hx))
  · skip
    exact pairMk hb hM (D := C) ⟨by omega, by omega⟩ ⟨by decide, by decide, by decide⟩ (okPost (ok5_entry1 p hw) (fun _ _ _ hd => piKP hd p q q2)) (fun z m' => okPost (ok_entry1 hI.N hw) (fun _ _ _ hx => pxS hx))
theorem pair_asOf {r e v : Int} (hcp : CP M X t0 C) (hC : C + 61 ≤ 20000) (hG : G.2.2.2 = t0) (hsz : X + 166 ≤ sz) (hb : b < G.2.2.1 ∧ G.2.2.1 ≤ X ∧ b ≠ t0) : Pair G kX5_asOf kX6_asOf [.inl r, .inl e, .inl v] X t0 b C M sz := by
  obtain ⟨s, pa, sv, sh, ish, tx, ln, sp, cl, bf, mk, st, M0, ⟨g, h, c, p, q, q2⟩, hM⟩ := hcp
  have hv : 0 ≤ sv ∧ sv ≤ 4 := p.sv_b
  have hI : Inv C s := p.2.1.2
  have hn := hI.num
  have hl := p.1.2.2.2.2.2.2.2.2.2.2.2
  by_cases hw : 0 ≤ r ∧ r ≤ 5 ∧ s 2 ≤ e ∧ e ≤ s 3 - 1 ∧ 0 ≤ v ∧ v ≤ 11
  · have hpg := hI.page (p := r) hw.1 (by omega)
    by_cases hb2 : asA s r e ∨ asBad s r e
    · skip
      exact pairMk hb hM (D := C) ⟨by omega, by omega⟩ ⟨by decide, by decide, by decide⟩ (okPost (ok5_asOf2 p hsz hw) (fun _ _ _ hd => keptKP (hd.1 hb2) q q2)) (fun z m' => okPost (ok_asOf2 hI.N hI.E hI.C hw hpg.1 hpg.2.2 (z := -4) (fun _ => rfl) (fun _ _ => rfl) (fun g1 g2 => absurd hb2 (fun x => x.elim g1 g2))) (fun _ _ _ hx => pxS hx))
    · have ez : asZ s Zr r e v = asZ s cl r e v := ((asZ_congr hI hw.2.2.1 (by omega) (fun g => hb2 (Or.inl g))) v (by omega) (by omega)).symm
      exact pairMk hb hM (D := C) ⟨by omega, by omega⟩ ⟨by decide, by decide, by decide⟩ (okPost (ok5_asOf2 p hsz hw) (fun _ _ _ hd => keptKP (hd.2 hb2) q q2)) (fun z m' => okPost (ok_asOf2 hI.N hI.E hI.C hw hpg.1 hpg.2.2 (z := asZ s Zr r e v) (fun g => absurd (Or.inl g) hb2) (fun _ g => absurd (Or.inr g) hb2) (fun _ _ => ez)) (fun _ _ _ hx => pxS hx))
  · skip
    exact pairMk hb hM (D := C) ⟨by omega, by omega⟩ ⟨by decide, by decide, by decide⟩ (okPost (ok5_asOf1 p hw) (fun _ _ _ hd => piKP hd p q q2)) (fun z m' => okPost (ok_asOf1 hI.N hw) (fun _ _ _ hx => pxS hx))
theorem pair_wouldLog {r v : Int} (hcp : CP M X t0 C) (hC : C + 61 ≤ 20000) (hG : G.2.2.2 = t0) (hsz : X + 166 ≤ sz) (hb : b < G.2.2.1 ∧ G.2.2.1 ≤ X ∧ b ≠ t0) : Pair G kX5_wouldLog kX6_wouldLog [.inl r, .inl v] X t0 b C M sz := by
  obtain ⟨s, pa, sv, sh, ish, tx, ln, sp, cl, bf, mk, st, M0, ⟨g, h, c, p, q, q2⟩, hM⟩ := hcp
  have hv : 0 ≤ sv ∧ sv ≤ 4 := p.sv_b
  have hI : Inv C s := p.2.1.2
  have hn := hI.num
  have hl := p.1.2.2.2.2.2.2.2.2.2.2.2
  by_cases hw : 0 ≤ r ∧ r ≤ 5
  · by_cases h2 : 0 ≤ v ∧ v ≤ 9
    · have hok : entOK (mkF r 1 0 12 v Zr) 0 := mkF_ok (by omega) (by decide) (by omega) (by omega) (by omega) (by omega) (by omega)
      have ec := chMk_congr (s := s) (c := Zr) (d := cl) hok (mkF_eq17 Zr mk) 1 (by decide) (by decide)
      exact pairMk hb hM (D := C) ⟨by omega, by omega⟩ ⟨by decide, by decide, by decide⟩ (okPost (ok5_would3 p hG hsz hw h2) (fun _ _ _ hd => keptKP hd q q2)) (fun z m' => okPost (ok_wouldLog3 hI.N hI.E hI.C hw h2) (fun _ _ _ hx => pxS (by rw [ec] at hx; exact hx)))
    · skip
      exact pairMk hb hM (D := C) ⟨by omega, by omega⟩ ⟨by decide, by decide, by decide⟩ (okPost (ok5_would2 hw h2) (fun _ _ _ hd => piKP hd p q q2)) (fun z m' => okPost (ok_wouldLog2 hw h2) (fun _ _ _ hx => pxS hx))
  · skip
    exact pairMk hb hM (D := C) ⟨by omega, by omega⟩ ⟨by decide, by decide, by decide⟩ (okPost (ok5_would1 hw) (fun _ _ _ hd => piKP hd p q q2)) (fun z m' => okPost (ok_wouldLog1 hw) (fun _ _ _ hx => pxS hx))
theorem pair_bestRenewed (hcp : CP M X t0 C) (hC : C + 61 ≤ 20000) (hG : G.2.2.2 = t0) (hsz : X + 166 ≤ sz) (hb : b < G.2.2.1 ∧ G.2.2.1 ≤ X ∧ b ≠ t0) : Pair G kX5_bestRenewed kX6_bestRenewed [] X t0 b C M sz := by
  obtain ⟨s, pa, sv, sh, ish, tx, ln, sp, cl, bf, mk, st, M0, ⟨g, h, c, p, q, q2⟩, hM⟩ := hcp
  have hv : 0 ≤ sv ∧ sv ≤ 4 := p.sv_b
  have hI : Inv C s := p.2.1.2
  have hn := hI.num
  have hl := p.1.2.2.2.2.2.2.2.2.2.2.2
  exact pairMk hb hM (D := C) ⟨by omega, by omega⟩ ⟨by decide, by decide, by decide⟩ (okPost (ok5_best p) (fun _ _ _ hd => piKP hd p q q2)) (fun z m' => okPost (ok_bestRenewed hI.N hI.E) (fun _ _ _ hx => pxS hx))
theorem pair_count {w : Int} (hcp : CP M X t0 C) (hC : C + 61 ≤ 20000) (hG : G.2.2.2 = t0) (hsz : X + 166 ≤ sz) (hb : b < G.2.2.1 ∧ G.2.2.1 ≤ X ∧ b ≠ t0) : Pair G kX5_count kX6_count [.inl w] X t0 b C M sz := by
  obtain ⟨s, pa, sv, sh, ish, tx, ln, sp, cl, bf, mk, st, M0, ⟨g, h, c, p, q, q2⟩, hM⟩ := hcp
  have hv : 0 ≤ sv ∧ sv ≤ 4 := p.sv_b
  have hI : Inv C s := p.2.1.2
  have hn := hI.num
  have hl := p.1.2.2.2.2.2.2.2.2.2.2.2
  exact pairMk hb hM (D := C) ⟨by omega, by omega⟩ ⟨by decide, by decide, by decide⟩ (okPost (ok5_count p) (fun _ _ _ hd => piKP hd p q q2)) (fun z m' => okPost (ok_count hI.N hI.E hI.D) (fun _ _ _ hx => pxS hx))
end

