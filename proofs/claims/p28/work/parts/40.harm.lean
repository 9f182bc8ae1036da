-- damage and crash
theorem pict_eq {f vf : Int → Int} {a b : Int} (h : ∀ j, 0 ≤ j → j < 12 → vf (b + j) = f (a + j)) : pict vf b = pict f a := by
  unfold pict pictR
  have : foldI (pictF vf b) 1 1 12 = foldI (pictF f a) 1 1 12 := foldI_congr (fun k x h0 h1 => by
    unfold pictF
    rw [show b + k - 1 = b + (k - 1) by omega, show a + k - 1 = a + (k - 1) by omega, h _ (by omega) (by omega), h _ (by omega) (by omega)])
  rw [this]
theorem szE_eq {f vf : Int → Int} {a am : Int} {nv : Nat} (h : EntV f a am nv vf) (hk : 0 ≤ f (a + 1) ∧ f (a + 1) ≤ 4) : szE (f (a + 1)) nv vf = sizeA f a := by
  obtain ⟨h1, h2, h3⟩ := h
  unfold szE sizeA
  by_cases c0 : f (a + 1) = 0
  · obtain ⟨k1, k2⟩ := h2 c0
    rw [if_pos c0, if_pos c0, if_neg (by omega)]
    exact pict_eq (fun j j0 j1 => by rw [Int.zero_add]; exact k2 j j0 j1)
  · rw [if_neg c0, if_neg c0]
    by_cases c1 : f (a + 1) = 1 ∨ f (a + 1) = 2
    · rw [if_pos c1, if_pos c1]
    · rw [if_neg c1, if_neg c1]
      by_cases c3 : f (a + 1) = 3
      · rw [if_pos c3, (h1 c0 (by omega)).2]
        rfl
      · rw [if_neg c3, (h3 (by omega)).1.1]
theorem EntV.nv {f vf : Int → Int} {a am : Int} {nv : Nat} (h : EntV f a am nv vf) : nv ≤ 12 := by
  obtain ⟨h1, h2, h3⟩ := h
  by_cases c0 : f (a + 1) = 0
  · have := (h2 c0).1; omega
  · by_cases c4 : f (a + 1) = 4
    · have := (h3 c4).1; omega
    · have := (h1 c0 c4).2; omega
theorem dmg_ent {Z t0 z va nv : Nat} {m : Mem} {s t vf : Int → Int} {a am : Int} (hEV : EntV s a am nv vf) (hk : 0 ≤ s (a + 1) ∧ s (a + 1) ≤ 4) (ho : m z = obj 0 (fobj (s a) (s (a + 1)) (s (a + 2)) (s (a + 2) + s (a + 3) - 1) am va 1 (szE (s (a + 1)) nv vf))) (hva : Z ≤ va ∨ va = t0) (hv : m va = iar nv vf) (hz : Z ≤ z) (h4 : t (a + 4) = 1) (ht : ∀ j, 0 ≤ j → j < 17 → j ≠ 4 → t (a + j) = s (a + j)) : EntR Z t0 m z t a := by
  have e0 := ht 0 (by decide) (by decide) (by decide)
  rw [Int.add_zero] at e0
  have e1 := ht 1 (by decide) (by decide) (by decide)
  have e2 := ht 2 (by decide) (by decide) (by decide)
  have e3 := ht 3 (by decide) (by decide) (by decide)
  have e5 := ht 5 (by decide) (by decide) (by decide)
  have e6 : ∀ j, 0 ≤ j → j < 12 → t (a + 5 + j) = s (a + 5 + j) := fun j j0 j1 => by
    have := ht (5 + j) (by omega) (by omega) (by omega)
    rw [← Int.add_assoc] at this
    exact this
  obtain ⟨v1, v2, v3⟩ := id hEV
  refine ⟨hz, am, va, nv, vf, ?_, hva, hv, ?_, ?_, ?_⟩
  · unfold eobj
    rw [e0, e1, e2, e3, h4, sizeA_congr4 (f := s) (g := t) (a := a) (b := a) ht, ← szE_eq hEV hk]
    exact ho
  · rw [e1, e5]; exact v1
  · rw [e1]
    exact fun q => ⟨(v2 q).1, fun j j0 j1 => by rw [e6 j j0 j1]; exact (v2 q).2 j j0 j1⟩
  · rw [e1, e3]
    exact fun q => ⟨(v3 q).1, fun j j0 j1 => by have := (v3 q).1.2; rw [e6 j j0 (by omega)]; exact (v3 q).2 j j0 j1⟩
theorem sndE_congr {s t : Int → Int} {p : Int} (h2 : t 2 = s 2) (hp : t (152 + p) = s (152 + p)) (he : ∀ j, 170 ≤ j → t j = s j) : ∀ (f : Nat) (e : Int), sndE t p f e = sndE s p f e
  | 0, e => rfl
  | f + 1, e => by
    unfold sndE
    rw [firstDam_congr h2 hp he, sndE_congr h2 hp he f]
theorem rest_as {s : Int → Int} {p e : Int} (h0 : s 2 ≤ e) (q bf : Int → Int) : (foldI (restF s p e) (q, bf) (s 2) e).1 = foldI (asF s p) q (fN s p e) e := by
  have hb := fN_b (p := p) h0
  have lo : ∀ k, s 2 ≤ k → k ≤ fN s p e → (foldI (restF s p e) (q, bf) (s 2) k).1 = q := fun k k0 k1 =>
    foldI_indB (f := restF s p e) (z := (q, bf)) (a := s 2) (e := fN s p e) (fun _ x => x.1 = q) rfl (fun j x g0 g1 g2 => by
      unfold restF
      rw [if_neg (fun h => by have := (fN_le ⟨g0, by omega⟩ h.2.1).mpr h; omega)]
      exact g2) k k0 k1
  refine foldI_indB (f := asF s p) (z := q) (a := fN s p e) (e := e) (fun k x => (foldI (restF s p e) (q, bf) (s 2) k).1 = x) (lo _ hb.1 (Int.le_refl _)) (fun k x g0 g1 g2 => ?_) e hb.2 (Int.le_refl _)
  rw [foldI_s (by omega)]
  generalize foldI (restF s p e) (q, bf) (s 2) k = Y at g2 ⊢
  unfold restF asF
  by_cases c : ofE s k 0 = p
  · rw [if_pos c, if_pos ((fN_le ⟨by omega, g1⟩ c).mp g0), g2]
  · rw [if_neg c, if_neg (fun h => c h.2.1), g2]
theorem crQ_ok {s : Int → Int} {C : Int} (cl bf : Int → Int) (h : Inv C s) : ∀ k, 0 ≤ k → k ≤ 6 → (fun (q : (Int → Int) × (Int → Int) × (Int → Int)) => Num q.1 ∧ EntS q.1 ∧ CellS q.1 ∧ DoubS q.1 ∧ ∀ j, j < 8 ∨ (152 ≤ j ∧ j < 158) ∨ 164 ≤ j → q.1 j = upI s 3 (s 4) j) (foldI crF (upI s 3 (s 4), cl, bf) 0 k) := by
  have h1 := h.cut
  intro k k0 k1
  refine foldI_indB (f := crF) (z := (upI s 3 (s 4), cl, bf)) (a := 0) (e := 6) (fun _ q => Num q.1 ∧ EntS q.1 ∧ CellS q.1 ∧ DoubS q.1 ∧ ∀ j, j < 8 ∨ (152 ≤ j ∧ j < 158) ∨ 164 ≤ j → q.1 j = upI s 3 (s 4) j) ⟨h1.N, h1.E, h1.C, h1.D, fun _ _ => rfl⟩ (fun p q p0 p1 hq => ?_) k k0 k1
  obtain ⟨qN, qE, qC, qD, qe⟩ := hq
  obtain ⟨bN, bE, bC, b0⟩ := back_ok (cl := q.2.1) (bf := q.2.2) qN qE qC ⟨p0, p1⟩
  refine ⟨bN, bE, bC, fun r r0 r1 => ?_, fun j hj => ?_⟩
  · show backS q.1 q.2.1 q.2.2 p (158 + r) = 0 ∨ backS q.1 q.2.1 q.2.2 p (158 + r) = 1
    unfold backS
    rw [cpy_out (by omega)]
    by_cases hr : r = p
    · subst hr
      unfold backD
      rw [upI_s]
      split <;> omega
    · rw [backD_n (by omega)]
      exact qD r r0 r1
  · rw [← qe j hj]
    show backS q.1 q.2.1 q.2.2 p j = q.1 j
    unfold backS
    rw [cpy_out (by omega), backD_n (by omega)]
section
variable {G : GX} {sz : Nat} {m : Mem} {B Z t0 : Nat} {s : Int → Int} {g : Int → Option Nat} {C : Int}
theorem ok_replace {k : Int} {e : Nat} (h1 : s 2 ≤ k) (h2 : k < s 3) (hN : Num s) (hv : ∀ v : Nat, some e = some v → (v < B ∨ B + 22 ≤ v) ∧ ∃ fs, m v = obj 0 fs) : Ok G kX1_replace 0 [.inr (some (B + 2)), .inl k, .inr (some e)] sz (BM m B s g) 0 0 (PV sz (BM m B s (upI g (k - s 2) (some e)))) := by
  refine Ok.body [some (.inr (some (B + 2))), some (.inl k), some (.inr (some e)), none] rfl (Nat.le_of_ble_eq_true rfl) (by decide) ?_
  obtain ⟨n0, n1, n2, n3, n4⟩ := id hN
  refine V.ild1 aX1_replace_0 ?_
  refine V.ald0 aX1_replace_1 ?_
  refine U.gfL aX1_replace_2 fl_RX1_21 rfl ?_
  refine V.isub aX1_replace_5 (by omega) ?_
  refine V.ist3 aX1_replace_6 ?_
  refine V.ild1 aX1_replace_7 ?_
  refine V.ald0 aX1_replace_8 ?_
  refine U.gfL aX1_replace_9 fl_RX1_21 rfl ?_
  refine V.icmp_lt aX1_replace_12 (tgt := 36) (by decide) (fun c12 => ?_) (fun c12 => ?_)
  · exfalso
    omega
  · refine V.ild3 aX1_replace_15 ?_
    refine V.ald0 aX1_replace_16 ?_
    refine U.gfL aX1_replace_17 fl_RX1_24 rfl ?_
    refine V.icmp_ge aX1_replace_20 (tgt := 36) (by decide) (fun c20 => ?_) (fun c20 => ?_)
    · exfalso
      omega
    · refine V.ild3 aX1_replace_23 ?_
      refine V.bipush aX1_replace_24 (by decide) (by decide) ?_
      refine V.icmp_ge aX1_replace_26 (tgt := 36) (by decide) (fun c26 => ?_) (fun c26 => ?_)
      · exfalso
        omega
      · refine V.ald0 aX1_replace_29 ?_
        refine U.gfL aX1_replace_30 fl_RX1_11 rfl ?_
        refine V.ild3 aX1_replace_33 ?_
        refine V.ald2 aX1_replace_34 ?_
        refine U.stE aX1_replace_35 (by omega) hv ?_
        refine V.ret aX1_replace_36 rfl (by decide) ?_
        exact PV.of rfl
theorem ok_harm1 {k : Int} (hI : Inv C s) (hR : EntsR Z t0 m s g) (hZ : B + 22 ≤ Z) (hk : s 2 ≤ k ∧ k ≤ s 3 - 1) (h4 : ofE s k 4 = 1) : Ok G kX4_harm 3 [.inr (some B), .inl k] sz (BM m B s g) 1 8 (PI (-5) sz (BM m B s g)) := by
  refine Ok.body [some (.inr (some B)), some (.inl k), none, none, none] rfl (Nat.le_of_ble_eq_true rfl) (by decide) ?_
  have hN := hI.N
  obtain ⟨e, hg, he⟩ := hR (k - s 2) (by omega) (by omega)
  obtain ⟨am, va, ho⟩ := he.obj (B := B) (s := s) (g := g) hZ
  have e4 : ofE s k 4 = s (170 + 17 * (k - s 2) + 4) := rfl
  refine V.ald0 aX4_harm_0 ?_
  refine U.gfS aX4_harm_1 fl_RX4_20 rfl ?_
  refine V.ild1 aX4_harm_4 ?_
  refine call_X1_at aX4_harm_5 gl_RX4_57 (ok_at1 hg (by omega) (by omega) hN) (BM_L) (Nat.le_of_ble_eq_true rfl) (by decide) (goR ?_)
  refine V.ast2 aX4_harm_8 ?_
  refine V.ald2 aX4_harm_9 ?_
  refine V.ifnonnull aX4_harm_10 (tgt := 15) (by decide) (fun v10 c10 => ?_) (fun c10 => ?_)
  · refine V.ald2 aX4_harm_15 ?_
    refine V.getf aX4_harm_16 fl_RX4_180 ho rfl ?_
    refine V.if_eq aX4_harm_19 (tgt := 25) (by decide) (fun c19 => ?_) (fun c19 => ?_)
    · exfalso
      omega
    · refine V.bipush aX4_harm_22 (by decide) (by decide) ?_
      refine V.iret aX4_harm_24 rfl (by decide) ?_
      exact PI.of rfl
  · cases c10
theorem ok_harm2 {k : Int} (hI : Inv C s) (hR : EntsR Z t0 m s g) (hS : SlotsR Z m g) (hZ : B + 22 ≤ Z ∧ Z ≤ sz) (ht : t0 < B) (hk : s 2 ≤ k ∧ k ≤ s 3 - 1) (h4 : ofE s k 4 ≠ 1) : Ok G kX4_harm 3 [.inr (some B), .inl k] sz (BM m B s g) 1 8 (fun ret z m' => ret = some (.inl (dmgZ (upI s (170 + 17 * (k - s 2) + 4) 1))) ∧ sz ≤ z ∧ ∃ m1 g', Ext m m1 ∧ m' = BM m1 B (upI s (170 + 17 * (k - s 2) + 4) 1) g' ∧ EntsR Z t0 m1 (upI s (170 + 17 * (k - s 2) + 4) 1) g' ∧ SlotsR Z m1 g') := by
  refine Ok.body [some (.inr (some B)), some (.inl k), none, none, none] rfl (Nat.le_of_ble_eq_true rfl) (by decide) ?_
  refine V.knowS (fun hu _ => ?_)
  have hun : m sz = unk := by
    have := hu sz (Nat.le_refl _)
    rw [BM_n (Or.inr (by omega))] at this
    exact this
  have hn := hI.num
  have hN := hI.N
  have hok := hI.E k hk.1 (by omega)
  obtain ⟨e, hg, hZe, am, va, nv, vf, ho', hva, hv', hEV⟩ := hR (k - s 2) (by omega) (by omega)
  have ho : (BM m B s g) e = obj 0 (eobj s (170 + 17 * (k - s 2)) am va) := (BM_n (Or.inr (by omega))).trans ho'
  have hv : (BM m B s g) va = iar nv vf := (BM_n (by omega)).trans hv'
  have e4 : ofE s k 4 = s (170 + 17 * (k - s 2) + 4) := rfl
  have q4 : ofE s k 4 = 0 ∨ ofE s k 4 = 1 := hok.2.2.2.1
  have tI := hI.damage (e := k) ⟨hk.1, hk.2⟩
  obtain ⟨t, htd⟩ : ∃ t, t = upI s (170 + 17 * (k - s 2) + 4) 1 := ⟨_, rfl⟩
  rw [← htd] at tI ⊢
  have tn : ∀ j, j ≠ 170 + 17 * (k - s 2) + 4 → t j = s j := fun j hj => by rw [htd]; exact upI_n hj
  have t4 : t (170 + 17 * (k - s 2) + 4) = 1 := by rw [htd]; exact upI_s
  have t2 := tn 2 (by omega)
  have t3 := tn 3 (by omega)
  have loop : ∀ (n : Nat) (p r : Int) (m1 : Mem) (g1 : Int → Option Nat) (z : Nat), (6 - p).toNat < n → 0 ≤ p → p ≤ 6 → (0 ≤ r ∧ r ≤ p) → r = foldI (fun n p => n + (if firstDam t p (t 3) = -5 then 0 else 1)) 0 0 p → sz ≤ z → Ext m m1 → EntsR Z t0 m1 t g1 → SlotsR Z m1 g1 → V G kX4_harm (rmM 3 1 8) (QfM G (fun ret z m' => ret = some (.inl (dmgZ t)) ∧ sz ≤ z ∧ ∃ m1 g', Ext m m1 ∧ m' = BM m1 B t g' ∧ EntsR Z t0 m1 t g' ∧ SlotsR Z m1 g') 1 8) 42 [some (.inr (some B)), some (.inl k), some (.inr (some e)), some (.inl r), some (.inl p)] [] z (BM m1 B t g1) 1 8 := by
    intro n
    induction n with
    | zero => intro p r m1 g1 z h; omega
    | succ n ih =>
      intro p r m1 g1 z hn hp0 hp1 hrb hr hz hx tR tS
      refine V.ild4 aX4_harm_42 ?_
      refine V.bipush aX4_harm_44 (by decide) (by decide) ?_
      refine V.icmp_ge aX4_harm_46 (tgt := 67) (by decide) (fun c46 => ?_) (fun c46 => ?_)
      · refine V.ild3 aX4_harm_67 ?_
        refine V.iret aX4_harm_68 rfl (by decide) ?_
        exact ⟨by rw [hr, show p = 6 by omega]; rfl, hz, m1, g1, hx, rfl, tR, tS⟩
      · refine V.ald0 aX4_harm_49 ?_
        refine V.ild4 aX4_harm_50 ?_
        refine call_X4_needsDamaged aX4_harm_52 gl_RX4_191 (ok_needsD tI.N tI.E tR hZ.1 tI.P (by omega)) (BM_S) (Nat.le_of_ble_eq_true rfl) (by decide) (goI ?_)
        refine V.ifb_eq aX4_harm_55 (tgt := 61) (by decide) (fun c55 => ?_) (fun c55 => ?_)
        · refine V.inc4 aX4_harm_61 (by omega) ?_
          refine V.goto aX4_harm_64 (tgt := 42) (by decide) ?_
          refine ih (p + 1) _ m1 g1 z (by omega) (by omega) (by omega) (by omega) ?_ hz hx tR tS
          rw [foldI_s hp0, ← hr]
          first | rw [if_neg c55] | (rw [if_pos (Decidable.of_not_not c55)]; omega)
        · refine V.inc3 aX4_harm_58 (by omega) ?_
          refine V.inc4 aX4_harm_61 (by omega) ?_
          refine V.goto aX4_harm_64 (tgt := 42) (by decide) ?_
          refine ih (p + 1) _ m1 g1 z (by omega) (by omega) (by omega) (by omega) ?_ hz hx tR tS
          rw [foldI_s hp0, ← hr]
          first | rw [if_neg c55] | (rw [if_pos (Decidable.of_not_not c55)]; omega)
  refine V.ald0 aX4_harm_0 ?_
  refine U.gfS aX4_harm_1 fl_RX4_20 rfl ?_
  refine V.ild1 aX4_harm_4 ?_
  refine call_X1_at aX4_harm_5 gl_RX4_57 (ok_at1 hg (by omega) (by omega) hN) (BM_L) (Nat.le_of_ble_eq_true rfl) (by decide) (goR ?_)
  refine V.ast2 aX4_harm_8 ?_
  refine V.ald2 aX4_harm_9 ?_
  refine V.ifnonnull aX4_harm_10 (tgt := 15) (by decide) (fun v10 c10 => ?_) (fun c10 => ?_)
  · refine V.ald2 aX4_harm_15 ?_
    refine V.getf aX4_harm_16 fl_RX4_180 ho rfl ?_
    refine V.if_eq aX4_harm_19 (tgt := 25) (by decide) (fun c19 => ?_) (fun c19 => ?_)
    · refine V.ald0 aX4_harm_25 ?_
      refine U.gfS aX4_harm_26 fl_RX4_20 rfl ?_
      refine V.ild1 aX4_harm_29 ?_
      refine V.ald2 aX4_harm_30 ?_
      refine call_X0_asDamaged aX4_harm_31 gl_RX4_183 ((ok_asDamaged ho hv hEV hEV.nv hok.2.1 (by constructor; (by_cases q : va < sz; exact q; exact absurd hv' (by rw [show m va = unk from by have := hu va (by omega); rw [BM_n (by omega)] at this; exact this]; exact fun h => iar_nu h.symm)); (by_cases q : e < sz; exact q; exact absurd ho' (by rw [show m e = unk from by have := hu e (by omega); rw [BM_n (Or.inr (by omega))] at this; exact this]; exact fun h => obj_nu h.symm))))) (ho) (Nat.le_of_ble_eq_true rfl) (by decide) (goR ?_)
      rw [BM_new (by omega)]
      refine call_X1_replace aX4_harm_34 gl_RX4_187 (ok_replace (by omega) (by omega) hN (fun v q => by cases q; exact ⟨Or.inr (by omega), _, upM_s⟩)) (BM_L) (Nat.le_of_ble_eq_true rfl) (by decide) (goV ?_)
      refine V.iconst aX4_harm_37 (by decide) ?_
      refine V.ist3 aX4_harm_38 ?_
      refine V.iconst aX4_harm_39 (by decide) ?_
      refine V.ist4 aX4_harm_40 ?_
      refine V.mem (BM_congr (t := t) (fun j j0 j1 => tn j (by omega))) ?_
      have hx : Ext m (upM m sz (obj 0 (fobj (s (170 + 17 * (k - s 2))) (s (170 + 17 * (k - s 2) + 1)) (s (170 + 17 * (k - s 2) + 2)) (s (170 + 17 * (k - s 2) + 2) + s (170 + 17 * (k - s 2) + 3) - 1) am va 1 (szE (s (170 + 17 * (k - s 2) + 1)) nv vf)))) := Ext.new hun
      refine loop _ 0 0 _ _ _ (Nat.lt_succ_self _) (by decide) (by decide) (by decide) (foldI_0 (Int.le_refl _)).symm (by omega) hx (fun i i0 i1 => ?_) (fun i i0 i1 v hv2 => ?_)
      · rw [t2, t3] at i1
        by_cases qi : i = k - s 2
        · subst qi
          exact ⟨sz, upI_s, dmg_ent hEV hok.2.1 upM_s hva (hx.at hv' iar_nu) hZ.2 t4 (fun j j0 j1 j4 => tn _ (by omega))⟩
        · obtain ⟨e1, hg1, he1⟩ := hR i i0 i1
          exact ⟨e1, by rw [upI_n qi]; exact hg1, (he1.ext hx).congr (fun j j0 j1 => tn _ (by omega))⟩
      · by_cases qi : i = k - s 2
        · subst qi
          rw [upI_s] at hv2
          cases hv2
          exact ⟨hZ.2, _, upM_s⟩
        · rw [upI_n qi] at hv2
          exact (hS.ext hx) i i0 i1 v hv2
    · exfalso
      omega
  · cases c10
end
