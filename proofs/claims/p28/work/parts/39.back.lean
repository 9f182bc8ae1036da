-- a page brought back as of an entry; a page stored
theorem asFold_congr {s t : Int → Int} {p a b : Int} (he : ∀ k, a ≤ k → k < b → entOK s (atE s k) ∧ ∀ j, 0 ≤ j → j < 17 → t (atE t k + j) = s (atE s k + j)) {q r : Int → Int} (hq : Eq12 q r) (hab : a ≤ b) : Eq12 (foldI (asF s p) q a b) (foldI (asF t p) r a b) := by
  have e : ∀ n : Nat, a + n ≤ b → Eq12 (foldI (asF s p) q a (a + n)) (foldI (asF t p) r a (a + n)) := by
    intro n
    induction n with
    | zero => intro _; rw [foldI_0 (by omega), foldI_0 (by omega)]; exact hq
    | succ n ih =>
      intro hn
      have i1 := ih (by omega)
      rw [show a + ((n + 1 : Nat) : Int) = (a + n) + 1 by omega, foldI_s (by omega), foldI_s (by omega)]
      obtain ⟨h1, h2⟩ := he (a + n) (by omega) (by omega)
      unfold asF
      rw [show ofE t (a + n) 0 = ofE s (a + n) 0 from h2 0 (by decide) (by decide)]
      by_cases c : ofE s (a + n) 0 = p
      · rw [if_pos c, if_pos c]
        exact applyF_congr h2 h1.2.2.1 i1
      · rw [if_neg c, if_neg c]
        exact i1
  have := e (b - a).toNat (by omega)
  rw [show a + ((b - a).toNat : Int) = b by omega] at this
  exact this
theorem asSt_max {s : Int → Int} {p e : Int} (hs : s 2 ≤ e) : asSt s p e = max (if asFr s p e = -5 then s (152 + p) else asFr s p e) (s 2) := by
  have hb := asFr_b (a := 0) (s := s) (p := p) (e + 1) (by omega)
  rw [show foldI (asFrF s p) (-5) (s 2) (e + 1) = asFr s p e from rfl] at hb
  unfold asSt
  by_cases c : asFr s p e = -5
  · rw [if_neg (fun h => h c), if_pos c]
    split <;> omega
  · rw [if_pos c, if_neg c]
    omega
theorem fdam_b {s : Int → Int} {p a e : Int} (ha : a ≤ e) : fdam s p a e < e ↔ ∃ j, a ≤ j ∧ j < e ∧ ofE s j 0 = p ∧ ofE s j 4 = 1 := by
  rcases least_or (P := fun j => ofE s j 0 = p ∧ ofE s j 4 = 1) a e with h | ⟨k, hk, hc, h⟩
  · rw [fdam_none h]
    constructor
    · intro q; omega
    · rintro ⟨j, j0, j1, j2⟩; exact absurd j2 (h j j0 j1)
  · rw [fdam_at hk hc h]
    exact ⟨fun _ => ⟨k, hk.1, hk.2, hc⟩, fun _ => hk.2⟩
theorem cnt_0 {s : Int → Int} {p a e : Int} (h : ∀ j, a ≤ j → j < e → ofE s j 0 ≠ p) : cntOf s p a e = 0 := by
  by_cases ha : a ≤ e
  · refine foldI_indB (f := fun n k => n + b2 (ofE s k 0 = p)) (z := 0) (a := a) (e := e) (fun _ x => x = 0) rfl (fun k x g0 g1 g2 => ?_) e ha (Int.le_refl _)
    rw [g2, b2_f (h k g0 g1)]
    rfl
  · exact foldI_0 (by omega)
theorem cnt_1 {s : Int → Int} {p a e j : Int} (hj : a ≤ j ∧ j < e) (h : ofE s j 0 = p) : 0 < cntOf s p a e := by
  refine foldI_ind (f := fun n k => n + b2 (ofE s k 0 = p)) (z := 0) (a := a) (fun k x => 0 ≤ x ∧ (j < k → 0 < x)) ⟨Int.le_refl _, fun q => by omega⟩ (fun k x g0 g1 => ?_) e (by omega) |>.2 hj.2
  have b := b2_01 (P := ofE s k 0 = p)
  refine ⟨by omega, fun q => ?_⟩
  by_cases c : j = k
  · subst c
    rw [b2_t h]
    omega
  · have := g1.2 (by omega)
    omega
theorem neededMany_b {s : Int → Int} (hN : Num s) : 0 ≤ neededMany s ∧ neededMany s ≤ s 3 - s 2 := by
  obtain ⟨n0, n1, n2, n3, n4⟩ := id hN
  refine foldI_ind (f := fun n k => n + b2 (isN s k)) (z := 0) (a := s 2) (fun k x => 0 ≤ x ∧ x ≤ k - s 2) (by omega) (fun k x g0 g1 => ?_) (s 3) (by omega)
  have := b2_01 (P := isN s k)
  omega
theorem needed_store {C p : Int} {s : Int → Int} (hI : Inv C s) (hp : 0 ≤ p ∧ p < 6) (hj : ∀ j, s 4 ≤ j → j < s 3 → ofE s j 0 ≠ p) : neededMany (storeF s p) ≤ neededMany s := by
  have hn := hI.num
  have lo : ∀ j, j < 80 ∨ 152 ≤ j → j ≠ 152 + p → j ≠ 158 + p → storeF s p j = s j := fun j g0 g1 g2 => storeF_o hp g0 g1 g2
  have e2 := lo 2 (by omega) (by omega) (by omega)
  have e3 := lo 3 (by omega) (by omega) (by omega)
  have e4 := lo 4 (by omega) (by omega) (by omega)
  have hi : ∀ j, 170 ≤ j → storeF s p j = s j := fun j hj => lo j (by omega) (by omega) (by omega)
  have eo : ∀ k, s 2 ≤ k → ofE (storeF s p) k 0 = ofE s k 0 := fun k hk => by
    dsimp only [ofE, atE]
    rw [e2]
    exact hi _ (by omega)
  have key : ∀ k, s 2 ≤ k → k < s 3 → isN (storeF s p) k → isN s k := by
    intro k k0 k1 h
    unfold isN at h
    rw [eo k k0, e3, e4] at h
    by_cases c : ofE s k 0 = p
    · exfalso
      have s4 : storeF s p (152 + p) = s 4 := by
        unfold storeF
        rw [upI_n (by omega), upI_s]
      rw [c] at h
      rcases h with h | h
      · have h3 := h.2.2.1
        rw [s4] at h3
        exact hj k h3 k1 c
      · have h3 := h.2.2.1
        have h4 := h.1
        rw [s4] at h3
        omega
    · have hpk := hI.E.p k0 k1
      have es := lo (152 + ofE s k 0) (by omega) (by omega) (by omega)
      unfold isN
      unfold needsP at h ⊢
      rw [eo k k0, es, start_congr e2 es hi, start_congr e2 es hi] at h
      exact h
  have ef : ∀ F : Int → Int → Int, foldI F 0 (storeF s p 2) (storeF s p 3) = foldI F 0 (s 2) (s 3) := fun F => by rw [e2, e3]
  unfold neededMany
  rw [ef]
  have e : ∀ n : Nat, s 2 + n ≤ s 3 → foldI (fun n k => n + b2 (isN (storeF s p) k)) 0 (s 2) (s 2 + n) ≤ foldI (fun n k => n + b2 (isN s k)) 0 (s 2) (s 2 + n) := by
    intro n
    induction n with
    | zero => intro _; rw [foldI_0 (by omega), foldI_0 (by omega)]; exact Int.le_refl _
    | succ n ih =>
      intro hn2
      have i1 := ih (by omega)
      rw [show s 2 + ((n + 1 : Nat) : Int) = (s 2 + n) + 1 by omega, foldI_s (by omega), foldI_s (by omega)]
      have hk := key (s 2 + n) (by omega) (by omega)
      have : b2 (isN (storeF s p) (s 2 + n)) ≤ b2 (isN s (s 2 + n)) := by
        by_cases c : isN (storeF s p) (s 2 + n)
        · rw [b2_t c, b2_t (hk c)]
          exact Int.le_refl _
        · rw [b2_f c]
          have := b2_01 (P := isN s (s 2 + n))
          omega
      omega
  have := e (s 3 - s 2).toNat (by omega)
  rw [show s 2 + ((s 3 - s 2).toNat : Int) = s 3 by omega] at this
  exact this
section
variable {G : GX} {sz : Nat} {m : Mem} {B Z t0 : Nat} {s : Int → Int} {g : Int → Option Nat} {C : Int}
theorem ok_back {p e : Int} {ra : Nat} {c0 : Int → Int} (hI : Inv C s) (hR0 : EntsR Z t0 m s g) (hp : 0 ≤ p ∧ p < 6) (he : s 2 ≤ e ∧ e ≤ s 3 - 1) (hZ : B + 22 ≤ Z) (ht : t0 < B) (hra : m ra = unk) (hZr : Z ≤ ra) (hc0 : Cl c0) : Ok G kX4_bringBackAsOf 4 [.inr (some B), .inl p, .inl (e + 1), .inr (some ra)] sz (BM (upM m ra (iar 12 c0)) B s g) 0 0 (fun ret z m' => z = sz ∧ ((asA s p e ∨ asBad s p e) → ret = some (.inl 0) ∧ ∃ c', m' = (BM (upM m ra (iar 12 c')) B s g)) ∧ (¬ (asA s p e ∨ asBad s p e) → ret = some (.inl 1) ∧ ∃ c' : Int → Int, Eq12 (asZ s Zr p e) c' ∧ m' = (BM (upM m ra (iar 12 c')) B s g))) := by
  refine Ok.body [some (.inr (some B)), some (.inl p), some (.inl (e + 1)), some (.inr (some ra)), none] rfl (Nat.le_of_ble_eq_true rfl) (by decide) ?_
  have hn := hI.num
  have hN := hI.N
  have hE := hI.E
  have hP := hI.P p hp.1 hp.2
  have hpp := hI.page hp.1 hp.2
  have hx : ∀ c : Int → Int, Ext m (upM m ra (iar 12 c)) := fun c => Ext.new hra
  have hR := hR0.ext (hx c0)
  have hfr := asFr_b (a := 0) (s := s) (p := p) (e + 1) (by omega)
  have efr : foldI (asFrF s p) (-5) (s 2) (e + 1) = asFr s p e := rfl
  rw [efr] at hfr
  have hst := asSt_max (s := s) (p := p) (e := e) he.1
  have hdr : dr s p = 0 ∧ s (164 + p) = -5 ∨ dr s p = s (164 + p) + 1 ∧ s (164 + p) ≠ -5 := by
    unfold dr
    by_cases q : s (164 + p) = -5
    · rw [if_pos q]; exact Or.inl ⟨rfl, q⟩
    · rw [if_neg q]; exact Or.inr ⟨rfl, q⟩
  have tail : ∀ x, x = (if asFr s p e = -5 then s (152 + p) else asFr s p e) → ¬ asA s p e → (-5 ≤ x ∧ x ≤ 30000) → asSt s p e ≤ e + 1 → V G kX4_bringBackAsOf (rmM 4 0 0) (QfM G (fun ret z m' => z = sz ∧ ((asA s p e ∨ asBad s p e) → ret = some (.inl 0) ∧ ∃ c', m' = (BM (upM m ra (iar 12 c')) B s g)) ∧ (¬ (asA s p e ∨ asBad s p e) → ret = some (.inl 1) ∧ ∃ c' : Int → Int, Eq12 (asZ s Zr p e) c' ∧ m' = (BM (upM m ra (iar 12 c')) B s g))) 0 0) 51 [some (.inr (some B)), some (.inl p), some (.inl (e + 1)), some (.inr (some ra)), some (.inl x)] [] sz (BM (upM m ra (iar 12 c0)) B s g) 0 0 := by
    intro x hx0 hA hxb hle
    rw [← hx0] at hst
    have hb := fdam_b (s := s) (p := p) (a := max x (s 2)) (e := e + 1) (by omega)
    have hbad : fdam s p (max x (s 2)) (e + 1) < e + 1 ↔ asBad s p e := by
      rw [hb, ← hst]
      constructor
      · rintro ⟨j, j0, j1, j2⟩; exact ⟨j, j0, by omega, j2⟩
      · rintro ⟨j, j0, j1, j2⟩; exact ⟨j, j0, by omega, j2⟩
    refine V.ald0 aX4_bringBackAsOf_51 ?_
    refine U.gfS aX4_bringBackAsOf_52 fl_RX4_20 rfl ?_
    refine V.ild1 aX4_bringBackAsOf_55 ?_
    refine V.ild4 aX4_bringBackAsOf_56 ?_
    refine V.ild2 aX4_bringBackAsOf_58 ?_
    refine call_X1_firstDamaged aX4_bringBackAsOf_59 gl_RX4_95 (ok_fdam hN hE hR hZ (by omega) (by omega) (by omega)) (BM_L) (Nat.le_of_ble_eq_true rfl) (by decide) (goI ?_)
    refine V.ild2 aX4_bringBackAsOf_62 ?_
    refine V.icmp_ge aX4_bringBackAsOf_63 (tgt := 68) (by decide) (fun c63 => ?_) (fun c63 => ?_)
    · refine V.ald0 aX4_bringBackAsOf_68 ?_
      refine V.ild1 aX4_bringBackAsOf_69 ?_
      refine V.ild4 aX4_bringBackAsOf_70 ?_
      refine V.ild2 aX4_bringBackAsOf_72 ?_
      refine V.ald3 aX4_bringBackAsOf_73 ?_
      refine call_X4_replay aX4_bringBackAsOf_74 gl_RX4_118 ((ok_replay (m0 := m) (mm := fun c => upM m ra (iar 12 c)) (ss := fun _ => s) hN hE hI.C hR0 hp hxb (by omega) (by omega) hZ ht (fun _ _ _ => rfl) hx (Or.inl hra) (fun c c2 _ _ => by rw [BM_new (by omega), upM_upM]) (fun c _ => (BM_n (Or.inr (by omega))).trans upM_s) (by omega) hc0)) (BM_S) (Nat.le_of_ble_eq_true rfl) (by decide) (fun r74 z74 m74 h74 => ?_)
      obtain ⟨rfl, rfl, c', q1, q2, rfl⟩ := h74
      refine V.iconst aX4_bringBackAsOf_77 (by decide) ?_
      refine V.zret aX4_bringBackAsOf_78 rfl (by first | decide | exact b2_01 | omega) (by decide) ?_
      refine ⟨rfl, fun q => ?_, fun _ => ⟨rfl, c', ?_, rfl⟩⟩
      · rcases q with q | q
        · exact absurd q hA
        · have := hbad.mpr q; omega
      · unfold asZ
        rw [hst]
        exact q2
    · refine V.iconst aX4_bringBackAsOf_66 (by decide) ?_
      refine V.zret aX4_bringBackAsOf_67 rfl (by first | decide | exact b2_01 | omega) (by decide) ?_
      exact ⟨rfl, fun _ => ⟨rfl, c0, rfl⟩, fun q => absurd (Or.inr (hbad.mp (by omega))) q⟩
  refine V.ald0 aX4_bringBackAsOf_0 ?_
  refine U.gfS aX4_bringBackAsOf_1 fl_RX4_20 rfl ?_
  refine V.ild1 aX4_bringBackAsOf_4 ?_
  refine V.ild2 aX4_bringBackAsOf_5 ?_
  refine call_X1_latestPicture aX4_bringBackAsOf_6 gl_RX4_112 (ok_latest hN hR hZ (by omega) (by omega)) (BM_L) (Nat.le_of_ble_eq_true rfl) (by decide) (goI ?_)
  rw [efr]
  refine V.ist4 aX4_bringBackAsOf_9 ?_
  refine V.ild4 aX4_bringBackAsOf_11 ?_
  refine V.bipush aX4_bringBackAsOf_13 (by decide) (by decide) ?_
  refine V.icmp_ne aX4_bringBackAsOf_15 (tgt := 51) (by decide) (fun c15 => ?_) (fun c15 => ?_)
  · first
      | exact tail _ (by rw [if_neg c15]) (by unfold asA; omega) (by omega) (by rw [hst, if_neg c15]; omega)
      | exact tail _ (by rw [if_pos c15]) (by unfold asA; omega) (by omega) (by rw [hst, if_pos c15]; omega)
  · refine V.ald0 aX4_bringBackAsOf_18 ?_
    refine U.gfS aX4_bringBackAsOf_19 fl_RX4_11 rfl ?_
    refine V.ild1 aX4_bringBackAsOf_22 ?_
    refine U.aaP aX4_bringBackAsOf_23 (by omega) ?_
    refine U.gfP aX4_bringBackAsOf_24 fl_RX4_48 (by omega) rfl ?_
    refine V.ist4 aX4_bringBackAsOf_27 ?_
    refine V.ild4 aX4_bringBackAsOf_29 ?_
    refine V.ild2 aX4_bringBackAsOf_31 ?_
    refine V.icmp_gt aX4_bringBackAsOf_32 (tgt := 49) (by decide) (fun c32 => ?_) (fun c32 => ?_)
    · refine V.iconst aX4_bringBackAsOf_49 (by decide) ?_
      refine V.zret aX4_bringBackAsOf_50 rfl (by first | decide | exact b2_01 | omega) (by decide) ?_
      exact ⟨rfl, fun _ => ⟨rfl, c0, rfl⟩, fun q => absurd (Or.inl (by unfold asA; omega)) q⟩
    · refine V.ald0 aX4_bringBackAsOf_35 ?_
      refine U.gfS aX4_bringBackAsOf_36 fl_RX4_11 rfl ?_
      refine V.ild1 aX4_bringBackAsOf_39 ?_
      refine U.aaP aX4_bringBackAsOf_40 (by omega) ?_
      refine U.gfP aX4_bringBackAsOf_41 fl_RX4_115 (by omega) rfl ?_
      refine V.ild4 aX4_bringBackAsOf_44 ?_
      refine V.icmp_le aX4_bringBackAsOf_46 (tgt := 51) (by decide) (fun c46 => ?_) (fun c46 => ?_)
      · first
          | exact tail _ (by rw [if_neg c15]) (by unfold asA; omega) (by omega) (by rw [hst, if_neg c15]; omega)
          | exact tail _ (by rw [if_pos c15]) (by unfold asA; omega) (by omega) (by rw [hst, if_pos c15]; omega)
      · refine V.iconst aX4_bringBackAsOf_49 (by decide) ?_
        refine V.zret aX4_bringBackAsOf_50 rfl (by first | decide | exact b2_01 | omega) (by decide) ?_
        exact ⟨rfl, fun _ => ⟨rfl, c0, rfl⟩, fun q => absurd (Or.inl (by unfold asA; omega)) q⟩
theorem ok_store4a {p j : Int} (hI : Inv C s) (hR : EntsR Z t0 m s g) (hp : 0 ≤ p ∧ p < 6) (hZ : B + 22 ≤ Z) (hj : s 4 ≤ j ∧ j < s 3 ∧ ofE s j 0 = p) : Ok G kX4_storePage 4 [.inr (some B), .inl p] sz (BM m B s g) 0 0 (PI (-4) sz (BM m B s g)) := by
  refine Ok.body [some (.inr (some B)), some (.inl p), none, none] rfl (Nat.le_of_ble_eq_true rfl) (by decide) ?_
  have hn := hI.num
  have hN := hI.N
  have hc := cnt_1 (s := s) (p := p) (a := max (s 4) (s 2)) (e := s 3) (j := j) ⟨by omega, hj.2.1⟩ hj.2.2
  refine V.ald0 aX4_storePage_0 ?_
  refine U.gfS aX4_storePage_1 fl_RX4_20 rfl ?_
  refine V.ild1 aX4_storePage_4 ?_
  refine V.ald0 aX4_storePage_5 ?_
  refine U.gfS aX4_storePage_6 fl_RX4_20 rfl ?_
  refine U.gfL aX4_storePage_9 fl_RX4_76 rfl ?_
  refine V.ald0 aX4_storePage_12 ?_
  refine U.gfS aX4_storePage_13 fl_RX4_20 rfl ?_
  refine call_X1_next aX4_storePage_16 gl_RX4_69 (ok_next hN) (BM_L) (Nat.le_of_ble_eq_true rfl) (by decide) (goI ?_)
  refine call_X1_entriesOf aX4_storePage_19 gl_RX4_174 (ok_entriesOf hN hR hZ (by omega) (by omega) (by omega)) (BM_L) (Nat.le_of_ble_eq_true rfl) (by decide) (goI ?_)
  refine V.if_le aX4_storePage_22 (tgt := 28) (by decide) (fun c22 => ?_) (fun c22 => ?_)
  · exfalso
    omega
  · refine V.bipush aX4_storePage_25 (by decide) (by decide) ?_
    refine V.iret aX4_storePage_27 rfl (by decide) ?_
    exact PI.of rfl
theorem ok_store4b {p : Int} (hI : Inv C s) (hR : EntsR Z t0 m s g) (hp : 0 ≤ p ∧ p < 6) (hZ : B + 22 ≤ Z) (hj : ∀ j, s 4 ≤ j → j < s 3 → ofE s j 0 ≠ p) : Ok G kX4_storePage 4 [.inr (some B), .inl p] sz (BM m B s g) 0 0 (PI (neededMany s - neededMany (storeF s p)) sz (BM m B (storeF s p) g)) := by
  refine Ok.body [some (.inr (some B)), some (.inl p), none, none] rfl (Nat.le_of_ble_eq_true rfl) (by decide) ?_
  have hn := hI.num
  have hN := hI.N
  have hc := cnt_0 (s := s) (p := p) (a := max (s 4) (s 2)) (e := s 3) (fun j j0 j1 => hj j (by omega) j1)
  have tI := hI.store hp
  have lo : ∀ j, j < 80 ∨ 152 ≤ j → j ≠ 152 + p → j ≠ 158 + p → storeF s p j = s j := fun j g0 g1 g2 => storeF_o hp g0 g1 g2
  have tR : EntsR Z t0 m (storeF s p) g := hR.same2 (lo 2 (by omega) (by omega) (by omega)) (lo 3 (by omega) (by omega) (by omega)) (fun j hj => lo j (by omega) (by omega) (by omega))
  have nb1 := neededMany_b hI.N
  have nb2 := neededMany_b tI.N
  have t23 : storeF s p 3 - storeF s p 2 ≤ 100 := by have := tI.num; omega
  refine V.ald0 aX4_storePage_0 ?_
  refine U.gfS aX4_storePage_1 fl_RX4_20 rfl ?_
  refine V.ild1 aX4_storePage_4 ?_
  refine V.ald0 aX4_storePage_5 ?_
  refine U.gfS aX4_storePage_6 fl_RX4_20 rfl ?_
  refine U.gfL aX4_storePage_9 fl_RX4_76 rfl ?_
  refine V.ald0 aX4_storePage_12 ?_
  refine U.gfS aX4_storePage_13 fl_RX4_20 rfl ?_
  refine call_X1_next aX4_storePage_16 gl_RX4_69 (ok_next hN) (BM_L) (Nat.le_of_ble_eq_true rfl) (by decide) (goI ?_)
  refine call_X1_entriesOf aX4_storePage_19 gl_RX4_174 (ok_entriesOf hN hR hZ (by omega) (by omega) (by omega)) (BM_L) (Nat.le_of_ble_eq_true rfl) (by decide) (goI ?_)
  refine V.if_le aX4_storePage_22 (tgt := 28) (by decide) (fun c22 => ?_) (fun c22 => ?_)
  · refine V.ald0 aX4_storePage_28 ?_
    refine call_X4_neededEntries aX4_storePage_29 gl_RX4_177 (ok_needed4 hN hI.E hR hZ hI.P) (BM_S) (Nat.le_of_ble_eq_true rfl) (by decide) (goI ?_)
    refine V.ist2 aX4_storePage_32 ?_
    refine V.ald0 aX4_storePage_33 ?_
    refine U.gfS aX4_storePage_34 fl_RX4_11 rfl ?_
    refine V.ild1 aX4_storePage_37 ?_
    refine U.aaP aX4_storePage_38 (by omega) ?_
    refine V.ast3 aX4_storePage_39 ?_
    refine V.ald3 aX4_storePage_40 ?_
    refine U.gfP aX4_storePage_41 fl_RX4_122 (by omega) rfl ?_
    refine V.iconst aX4_storePage_44 (by decide) ?_
    refine V.ald3 aX4_storePage_45 ?_
    refine U.gfP aX4_storePage_46 fl_RX4_98 (by omega) rfl ?_
    refine V.iconst aX4_storePage_49 (by decide) ?_
    refine V.bipush aX4_storePage_50 (by decide) (by decide) ?_
    refine V.copy aX4_storePage_52 gl_RX4_102 gi_RJ10 (BM_c hp) (BM_k hp) (by omega) (by decide) (by decide) ?_
    have ek : cpy (fun j => if 0 ≤ j ∧ j < 0 + 12 then r12 s (8 + 12 * p) (0 + (j - 0)) else r12 s (80 + 12 * p) j) 0 s (80 + 12 * p) 12 = cpy s (8 + 12 * p) s (80 + 12 * p) 12 := by
      funext j
      by_cases q : 80 + 12 * p ≤ j ∧ j < 80 + 12 * p + 12
      · rw [cpy_in q, cpy_in q, if_pos (by omega), r12_in (by omega)]
        congr 1
        omega
      · rw [cpy_out (by omega), cpy_out (by omega)]
    refine V.mem (BM_wk hp (fun j hj => by rw [if_neg (by omega), r12_out hj])).symm ?_
    rw [ek]
    refine V.ald3 aX4_storePage_55 ?_
    refine V.ald0 aX4_storePage_56 ?_
    refine U.gfS aX4_storePage_57 fl_RX4_20 rfl ?_
    refine U.gfL aX4_storePage_60 fl_RX4_76 rfl ?_
    rw [show cpy s (8 + 12 * p) s (80 + 12 * p) 12 4 = s 4 from cpy_out (by omega)]
    refine U.pfP2 aX4_storePage_63 fl_RX4_48 (by omega) ?_
    refine V.ald3 aX4_storePage_66 ?_
    refine V.iconst aX4_storePage_67 (by decide) ?_
    refine U.pfP3 aX4_storePage_68 fl_RX4_91 (by omega) (by omega) ?_
    refine V.mem (m2 := (BM m B (storeF s p) g)) rfl ?_
    refine V.ild2 aX4_storePage_71 ?_
    refine V.ald0 aX4_storePage_72 ?_
    refine call_X4_neededEntries aX4_storePage_73 gl_RX4_177 (ok_needed4 tI.N tI.E tR hZ tI.P) (BM_S) (Nat.le_of_ble_eq_true rfl) (by decide) (goI ?_)
    refine V.isub aX4_storePage_76 (by omega) ?_
    refine V.iret aX4_storePage_77 rfl (by decide) ?_
    exact PI.of rfl
  · exfalso
    omega
end
