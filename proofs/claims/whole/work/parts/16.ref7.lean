-- the reference's methods: contracts (part seven): log and store
theorem entOK.congr {f g : Int → Int} {a b : Int} (h : entOK f a) (e : ∀ j, 0 ≤ j → j < 17 → g (b + j) = f (a + j)) : entOK g b := by
  have e0 := e 0 (by decide) (by decide)
  rw [Int.add_zero, Int.add_zero] at e0
  have e5 : ∀ j, 0 ≤ j → j < 12 → g (b + 5 + j) = f (a + 5 + j) := fun j j0 j1 => by
    have := e (5 + j) (by omega) (by omega)
    rw [← Int.add_assoc, ← Int.add_assoc] at this
    exact this
  unfold entOK
  rw [e0, e 1 (by decide) (by decide), e 2 (by decide) (by decide), e 3 (by decide) (by decide), e 4 (by decide) (by decide), e 5 (by decide) (by decide)]
  obtain ⟨h1, h2, h3, h4, h5, h6, h7, h8, h9⟩ := h
  exact ⟨h1, h2, h3, h4, fun j j0 j1 => by rw [e5 j j0 j1]; exact h5 j j0 j1, fun q j j0 j1 => by rw [e5 j j0 j1]; exact h6 q j j0 j1, h7, h8, h9⟩
theorem EntS.congr {s t : Int → Int} (h : EntS s) (h2 : t 2 = s 2) (h3 : t 3 ≤ s 3) (he : ∀ j, 170 ≤ j → t j = s j) : EntS t := by
  intro k k0 k1
  refine entOK.congr (h k (by omega) (by omega)) (fun j j0 j1 => ?_)
  unfold atE
  rw [h2]
  exact he _ (by omega)
theorem Num.congr {s t : Int → Int} (h : Num s) (h2 : t 2 = s 2) (h4 : t 4 = s 4) (h3 : s 4 ≤ t 3 ∧ t 3 ≤ s 3) : Num t := by
  unfold Num at h ⊢
  omega
theorem firstDam_b {s : Int → Int} {p e : Int} (h : s 2 ≤ e) : firstDam s p e = -5 ∨ (s 2 ≤ firstDam s p e ∧ firstDam s p e < e) := by
  have := foldD_ind (f := fun found k => if needsP s p k e ∧ ofE s k 4 = 1 then k else found) (z := -5) (b := e) (fun k x => x = -5 ∨ (k ≤ x ∧ x < e)) (Or.inl rfl) (fun k x g0 g1 => by
    try dsimp only
    split <;> omega) (s 2) h
  exact this
theorem start_congr {s t : Int → Int} {p e : Int} (h2 : t 2 = s 2) (hp : t (152 + p) = s (152 + p)) (he : ∀ j, 170 ≤ j → t j = s j) : start t p e = start s p e := by
  unfold start
  rw [h2]
  refine foldI_congr (fun k x k0 k1 => ?_)
  unfold startF ofE atE
  rw [h2, he _ (by omega), he _ (by omega), hp]
theorem firstDam_congr {s t : Int → Int} {p e : Int} (h2 : t 2 = s 2) (hp : t (152 + p) = s (152 + p)) (he : ∀ j, 170 ≤ j → t j = s j) : firstDam t p e = firstDam s p e := by
  unfold firstDam foldD
  rw [h2]
  refine foldI_congr (fun k x k0 k1 => ?_)
  dsimp only [needsP, ofE, atE]
  have e1 := he (170 + 17 * (e - 1 - k - s 2) + 0) (by omega)
  have e2 := he (170 + 17 * (e - 1 - k - s 2) + 4) (by omega)
  simp only [h2, e1, e2, hp, start_congr h2 hp he]
def storeF (s : Int → Int) (p : Int) : Int → Int := upI (upI (cpy s (8 + 12 * p) s (80 + 12 * p) 12) (152 + p) (s 4)) (158 + p) 0
theorem storeF_o {s : Int → Int} {p j : Int} (hp : 0 ≤ p ∧ p < 6) (h : j < 80 ∨ 152 ≤ j) (h1 : j ≠ 152 + p) (h2 : j ≠ 158 + p) : storeF s p j = s j := by
  unfold storeF
  rw [upI_n h2, upI_n h1, cpy_out (by omega)]
def sndE (s : Int → Int) (p : Int) : Nat → Int → Int
  | 0, e => e
  | f + 1, e => if firstDam s p e = -5 then e else sndE s p f (firstDam s p e)
def backD (s : Int → Int) (p : Int) : Int → Int := upI s (158 + p) (if firstDam s p (s 3) = -5 then 0 else 1)
def backE (s : Int → Int) (p : Int) : Int := sndE (backD s p) p 200 (s 3)
def backQ (s cl bf : Int → Int) (p : Int) : (Int → Int) × (Int → Int) := restQ (backD s p) p (backE s p) cl bf
def backS (s cl bf : Int → Int) (p : Int) : Int → Int := cpy (backQ s cl bf p).1 0 (backD s p) (8 + 12 * p) 12
def crF (q : (Int → Int) × (Int → Int) × (Int → Int)) (p : Int) : (Int → Int) × (Int → Int) × (Int → Int) := (backS q.1 q.2.1 q.2.2 p, (backQ q.1 q.2.1 q.2.2 p).1, (backQ q.1 q.2.1 q.2.2 p).2)
def crQ (s cl bf : Int → Int) : (Int → Int) × (Int → Int) × (Int → Int) := foldI crF (upI s 3 (s 4), cl, bf) 0 6
def crashF (s cl bf : Int → Int) : Int → Int := upI (crQ s cl bf).1 7 ((crQ s cl bf).1 7 + 1)
theorem backD_n {s : Int → Int} {p j : Int} (h : j ≠ 158 + p) : backD s p j = s j := upI_n h
theorem sndE_b {s : Int → Int} {p : Int} : ∀ (f : Nat) (e : Int), s 2 ≤ e → s 2 ≤ sndE s p f e ∧ sndE s p f e ≤ e
  | 0, e, h => ⟨h, Int.le_refl _⟩
  | f + 1, e, h => by
    unfold sndE
    split
    · exact ⟨h, Int.le_refl _⟩
    · rename_i hx
      have h1 := firstDam_b (p := p) h
      have := sndE_b (s := s) (p := p) f (firstDam s p e) (by omega)
      omega
def dmgZ (s : Int → Int) : Int := foldI (fun n p => n + (if firstDam s p (s 3) = -5 then 0 else 1)) 0 0 6
section
variable {G : GX} {sz : Nat} {m : Mem} {o : Nat} {s sp pa sh tx cl bf mk : Int → Int} {sv ish ln st : Int}
theorem ok_setWay1 {w : Int} (h : ¬ (0 ≤ w ∧ w ≤ 2)) : Ok G kX6_setWay 8 [.inr (some o), .inl w] sz (MM m o s sp pa sv sh ish tx ln cl bf mk st) 0 0 (PX m o (-2) sz s pa sv sh ish tx ln) := by
  refine Ok.body [some (.inr (some o)), some (.inl w), none] rfl (Nat.le_of_ble_eq_true rfl) (by decide) ?_
  refine V.ild1 aX6_setWay_0 ?_
  refine V.iconst aX6_setWay_1 (by decide) ?_
  refine V.iconst aX6_setWay_2 (by decide) ?_
  refine call_X6_in aX6_setWay_3 gl_RX6_35 (ok_in) (Nat.le_of_ble_eq_true rfl) (by decide) (goI ?_)
  refine V.ifb_ne aX6_setWay_6 (tgt := 12) (by decide) (fun c6 => ?_) (fun c6 => ?_)
  · omega
  · refine V.bipush aX6_setWay_9 (by decide) (by decide) ?_
    refine V.iret aX6_setWay_11 rfl (by decide) ?_
    exact PX.of rfl rfl rfl rfl rfl rfl rfl rfl
theorem ok_setWay2 {w : Int} (h : 0 ≤ w ∧ w ≤ 2) (h2 : s 0 = w) : Ok G kX6_setWay 8 [.inr (some o), .inl w] sz (MM m o s sp pa sv sh ish tx ln cl bf mk st) 0 0 (PX m o (-5) sz s pa sv sh ish tx ln) := by
  refine Ok.body [some (.inr (some o)), some (.inl w), none] rfl (Nat.le_of_ble_eq_true rfl) (by decide) ?_
  refine V.ild1 aX6_setWay_0 ?_
  refine V.iconst aX6_setWay_1 (by decide) ?_
  refine V.iconst aX6_setWay_2 (by decide) ?_
  refine call_X6_in aX6_setWay_3 gl_RX6_35 (ok_in) (Nat.le_of_ble_eq_true rfl) (by decide) (goI ?_)
  refine V.ifb_ne aX6_setWay_6 (tgt := 12) (by decide) (fun c6 => ?_) (fun c6 => ?_)
  · refine V.ald0 aX6_setWay_12 ?_
    refine M.gf aX6_setWay_13 fl_RX6_7 rfl ?_
    refine V.iconst aX6_setWay_16 (by decide) ?_
    refine M.lds aX6_setWay_17 (by omega) ?_
    refine V.ist2 aX6_setWay_18 ?_
    refine V.ild2 aX6_setWay_19 ?_
    refine V.ild1 aX6_setWay_20 ?_
    refine V.icmp_ne aX6_setWay_21 (tgt := 27) (by decide) (fun c21 => ?_) (fun c21 => ?_)
    · refine V.ald0 aX6_setWay_27 ?_
      refine V.ald0 aX6_setWay_28 ?_
      refine M.gf aX6_setWay_29 fl_RX6_7 rfl ?_
      omega
    · refine V.bipush aX6_setWay_24 (by decide) (by decide) ?_
      refine V.iret aX6_setWay_26 rfl (by decide) ?_
      exact PX.of rfl rfl rfl rfl rfl rfl rfl rfl
  · refine V.bipush aX6_setWay_9 (by decide) (by decide) ?_
    omega
theorem ok_setWay3 {w : Int} (h : 0 ≤ w ∧ w ≤ 2) (h2 : s 0 ≠ w) (hv : 0 ≤ sv ∧ sv ≤ 4) : Ok G kX6_setWay 8 [.inr (some o), .inl w] sz (MM m o s sp pa sv sh ish tx ln cl bf mk st) 0 0 (PX m o (s 0) sz (upI s 0 w) (recA pa sv s) (recV sv) sh ish tx ln) := by
  refine Ok.body [some (.inr (some o)), some (.inl w), none] rfl (Nat.le_of_ble_eq_true rfl) (by decide) ?_
  refine V.ild1 aX6_setWay_0 ?_
  refine V.iconst aX6_setWay_1 (by decide) ?_
  refine V.iconst aX6_setWay_2 (by decide) ?_
  refine call_X6_in aX6_setWay_3 gl_RX6_35 (ok_in) (Nat.le_of_ble_eq_true rfl) (by decide) (goI ?_)
  refine V.ifb_ne aX6_setWay_6 (tgt := 12) (by decide) (fun c6 => ?_) (fun c6 => ?_)
  · refine V.ald0 aX6_setWay_12 ?_
    refine M.gf aX6_setWay_13 fl_RX6_7 rfl ?_
    refine V.iconst aX6_setWay_16 (by decide) ?_
    refine M.lds aX6_setWay_17 (by omega) ?_
    refine V.ist2 aX6_setWay_18 ?_
    refine V.ild2 aX6_setWay_19 ?_
    refine V.ild1 aX6_setWay_20 ?_
    refine V.icmp_ne aX6_setWay_21 (tgt := 27) (by decide) (fun c21 => ?_) (fun c21 => ?_)
    · refine V.ald0 aX6_setWay_27 ?_
      refine V.ald0 aX6_setWay_28 ?_
      refine M.gf aX6_setWay_29 fl_RX6_7 rfl ?_
      refine call_X6_records aX6_setWay_32 gl_RX6_51 (ok_records (fun _ _ => MM_s) (by omega) (by omega)) (MM_o) (Nat.le_of_ble_eq_true rfl) (by decide) (goV ?_)
      refine V.ald0 aX6_setWay_35 ?_
      refine M.gf aX6_setWay_36 fl_RX6_7 rfl ?_
      refine V.iconst aX6_setWay_39 (by decide) ?_
      refine V.ild1 aX6_setWay_40 ?_
      refine M.sts aX6_setWay_41 (by omega) ?_
      refine V.ild2 aX6_setWay_42 ?_
      refine V.iret aX6_setWay_43 rfl (by decide) ?_
      exact PX.of rfl rfl rfl rfl rfl rfl rfl rfl
    · refine V.bipush aX6_setWay_24 (by decide) (by decide) ?_
      omega
  · refine V.bipush aX6_setWay_9 (by decide) (by decide) ?_
    omega
theorem ok_setRoom1 {r : Int} (h : ¬ (30 ≤ r ∧ r ≤ 300)) : Ok G kX6_setRoom 8 [.inr (some o), .inl r] sz (MM m o s sp pa sv sh ish tx ln cl bf mk st) 0 0 (PX m o (-2) sz s pa sv sh ish tx ln) := by
  refine Ok.body [some (.inr (some o)), some (.inl r), none, none] rfl (Nat.le_of_ble_eq_true rfl) (by decide) ?_
  refine V.ild1 aX6_setRoom_0 ?_
  refine V.bipush aX6_setRoom_1 (by decide) (by decide) ?_
  refine V.sipush aX6_setRoom_3 (by decide) (by decide) ?_
  refine call_X6_in aX6_setRoom_6 gl_RX6_35 (ok_in) (Nat.le_of_ble_eq_true rfl) (by decide) (goI ?_)
  refine V.ifb_ne aX6_setRoom_9 (tgt := 15) (by decide) (fun c9 => ?_) (fun c9 => ?_)
  · omega
  · refine V.bipush aX6_setRoom_12 (by decide) (by decide) ?_
    refine V.iret aX6_setRoom_14 rfl (by decide) ?_
    exact PX.of rfl rfl rfl rfl rfl rfl rfl rfl
theorem ok_setRoom2 {r : Int} (hN : Num s) (hE : EntS s) (h : 30 ≤ r ∧ r ≤ 300) (h2 : r < usedW s (droppable s r)) : Ok G kX6_setRoom 8 [.inr (some o), .inl r] sz (MM m o s sp pa sv sh ish tx ln cl bf mk st) 0 0 (PX m o (-4) sz s pa sv sh ish tx ln) := by
  refine Ok.body [some (.inr (some o)), some (.inl r), none, none] rfl (Nat.le_of_ble_eq_true rfl) (by decide) ?_
  obtain ⟨n0, n1, n2, n3, n4⟩ := id hN
  have hd := droppable_b (most := r) hN
  refine V.ild1 aX6_setRoom_0 ?_
  refine V.bipush aX6_setRoom_1 (by decide) (by decide) ?_
  refine V.sipush aX6_setRoom_3 (by decide) (by decide) ?_
  refine call_X6_in aX6_setRoom_6 gl_RX6_35 (ok_in) (Nat.le_of_ble_eq_true rfl) (by decide) (goI ?_)
  refine V.ifb_ne aX6_setRoom_9 (tgt := 15) (by decide) (fun c9 => ?_) (fun c9 => ?_)
  · refine V.ald0 aX6_setRoom_15 ?_
    refine V.ild1 aX6_setRoom_16 ?_
    refine call_X6_droppable aX6_setRoom_17 gl_RX6_106 (ok_droppable hN hE (by omega)) (MM_o) (Nat.le_of_ble_eq_true rfl) (by decide) (goI ?_)
    refine V.ist2 aX6_setRoom_20 ?_
    refine V.ald0 aX6_setRoom_21 ?_
    refine V.ild2 aX6_setRoom_22 ?_
    refine call_X6_usedWithout aX6_setRoom_23 gl_RX6_109 (ok_usedWithout hN hE (by omega) (by omega)) (MM_o) (Nat.le_of_ble_eq_true rfl) (by decide) (goI ?_)
    refine V.ild1 aX6_setRoom_26 ?_
    refine V.icmp_le aX6_setRoom_27 (tgt := 33) (by decide) (fun c27 => ?_) (fun c27 => ?_)
    · omega
    · refine V.bipush aX6_setRoom_30 (by decide) (by decide) ?_
      refine V.iret aX6_setRoom_32 rfl (by decide) ?_
      exact PX.of rfl rfl rfl rfl rfl rfl rfl rfl
  · omega
theorem ok_setRoom3 {r : Int} (hN : Num s) (hE : EntS s) (h : 30 ≤ r ∧ r ≤ 300) (h2 : usedW s (droppable s r) ≤ r) (h3 : s 1 = r) : Ok G kX6_setRoom 8 [.inr (some o), .inl r] sz (MM m o s sp pa sv sh ish tx ln cl bf mk st) 0 0 (PX m o (-5) sz s pa sv sh ish tx ln) := by
  refine Ok.body [some (.inr (some o)), some (.inl r), none, none] rfl (Nat.le_of_ble_eq_true rfl) (by decide) ?_
  obtain ⟨n0, n1, n2, n3, n4⟩ := id hN
  have hd := droppable_b (most := r) hN
  refine V.ild1 aX6_setRoom_0 ?_
  refine V.bipush aX6_setRoom_1 (by decide) (by decide) ?_
  refine V.sipush aX6_setRoom_3 (by decide) (by decide) ?_
  refine call_X6_in aX6_setRoom_6 gl_RX6_35 (ok_in) (Nat.le_of_ble_eq_true rfl) (by decide) (goI ?_)
  refine V.ifb_ne aX6_setRoom_9 (tgt := 15) (by decide) (fun c9 => ?_) (fun c9 => ?_)
  · refine V.ald0 aX6_setRoom_15 ?_
    refine V.ild1 aX6_setRoom_16 ?_
    refine call_X6_droppable aX6_setRoom_17 gl_RX6_106 (ok_droppable hN hE (by omega)) (MM_o) (Nat.le_of_ble_eq_true rfl) (by decide) (goI ?_)
    refine V.ist2 aX6_setRoom_20 ?_
    refine V.ald0 aX6_setRoom_21 ?_
    refine V.ild2 aX6_setRoom_22 ?_
    refine call_X6_usedWithout aX6_setRoom_23 gl_RX6_109 (ok_usedWithout hN hE (by omega) (by omega)) (MM_o) (Nat.le_of_ble_eq_true rfl) (by decide) (goI ?_)
    refine V.ild1 aX6_setRoom_26 ?_
    refine V.icmp_le aX6_setRoom_27 (tgt := 33) (by decide) (fun c27 => ?_) (fun c27 => ?_)
    · refine V.ald0 aX6_setRoom_33 ?_
      refine M.gf aX6_setRoom_34 fl_RX6_7 rfl ?_
      refine V.iconst aX6_setRoom_37 (by decide) ?_
      refine M.lds aX6_setRoom_38 (by omega) ?_
      refine V.ist3 aX6_setRoom_39 ?_
      refine V.ild3 aX6_setRoom_40 ?_
      refine V.ild1 aX6_setRoom_41 ?_
      refine V.icmp_ne aX6_setRoom_42 (tgt := 48) (by decide) (fun c42 => ?_) (fun c42 => ?_)
      · omega
      · refine V.bipush aX6_setRoom_45 (by decide) (by decide) ?_
        refine V.iret aX6_setRoom_47 rfl (by decide) ?_
        exact PX.of rfl rfl rfl rfl rfl rfl rfl rfl
    · omega
  · omega
theorem ok_setRoom4 {r : Int} (hN : Num s) (hE : EntS s) (h : 30 ≤ r ∧ r ≤ 300) (h2 : usedW s (droppable s r) ≤ r) (h3 : s 1 ≠ r) (hv : 0 ≤ sv ∧ sv ≤ 4) : Ok G kX6_setRoom 8 [.inr (some o), .inl r] sz (MM m o s sp pa sv sh ish tx ln cl bf mk st) 0 0 (PX m o (s 1) sz (upI (dropsF s (droppable s r)) 1 r) (recA pa sv s) (recV sv) sh ish tx ln) := by
  refine Ok.body [some (.inr (some o)), some (.inl r), none, none] rfl (Nat.le_of_ble_eq_true rfl) (by decide) ?_
  obtain ⟨n0, n1, n2, n3, n4⟩ := id hN
  have hd := droppable_b (most := r) hN
  refine V.ild1 aX6_setRoom_0 ?_
  refine V.bipush aX6_setRoom_1 (by decide) (by decide) ?_
  refine V.sipush aX6_setRoom_3 (by decide) (by decide) ?_
  refine call_X6_in aX6_setRoom_6 gl_RX6_35 (ok_in) (Nat.le_of_ble_eq_true rfl) (by decide) (goI ?_)
  refine V.ifb_ne aX6_setRoom_9 (tgt := 15) (by decide) (fun c9 => ?_) (fun c9 => ?_)
  · refine V.ald0 aX6_setRoom_15 ?_
    refine V.ild1 aX6_setRoom_16 ?_
    refine call_X6_droppable aX6_setRoom_17 gl_RX6_106 (ok_droppable hN hE (by omega)) (MM_o) (Nat.le_of_ble_eq_true rfl) (by decide) (goI ?_)
    refine V.ist2 aX6_setRoom_20 ?_
    refine V.ald0 aX6_setRoom_21 ?_
    refine V.ild2 aX6_setRoom_22 ?_
    refine call_X6_usedWithout aX6_setRoom_23 gl_RX6_109 (ok_usedWithout hN hE (by omega) (by omega)) (MM_o) (Nat.le_of_ble_eq_true rfl) (by decide) (goI ?_)
    refine V.ild1 aX6_setRoom_26 ?_
    refine V.icmp_le aX6_setRoom_27 (tgt := 33) (by decide) (fun c27 => ?_) (fun c27 => ?_)
    · refine V.ald0 aX6_setRoom_33 ?_
      refine M.gf aX6_setRoom_34 fl_RX6_7 rfl ?_
      refine V.iconst aX6_setRoom_37 (by decide) ?_
      refine M.lds aX6_setRoom_38 (by omega) ?_
      refine V.ist3 aX6_setRoom_39 ?_
      refine V.ild3 aX6_setRoom_40 ?_
      refine V.ild1 aX6_setRoom_41 ?_
      refine V.icmp_ne aX6_setRoom_42 (tgt := 48) (by decide) (fun c42 => ?_) (fun c42 => ?_)
      · refine V.ald0 aX6_setRoom_48 ?_
        refine V.ald0 aX6_setRoom_49 ?_
        refine M.gf aX6_setRoom_50 fl_RX6_7 rfl ?_
        refine call_X6_records aX6_setRoom_53 gl_RX6_51 (ok_records (fun _ _ => MM_s) (by omega) (by omega)) (MM_o) (Nat.le_of_ble_eq_true rfl) (by decide) (goV ?_)
        refine V.ald0 aX6_setRoom_56 ?_
        refine V.ild2 aX6_setRoom_57 ?_
        refine call_X6_drops aX6_setRoom_58 gl_RX6_112 (ok_drops hN hE (by omega) (by omega)) (MM_o) (Nat.le_of_ble_eq_true rfl) (by decide) (goV ?_)
        refine V.ald0 aX6_setRoom_61 ?_
        refine M.gf aX6_setRoom_62 fl_RX6_7 rfl ?_
        refine V.iconst aX6_setRoom_65 (by decide) ?_
        refine V.ild1 aX6_setRoom_66 ?_
        refine M.sts aX6_setRoom_67 (by omega) ?_
        refine V.ild3 aX6_setRoom_68 ?_
        refine V.iret aX6_setRoom_69 rfl (by decide) ?_
        exact PX.of rfl rfl rfl rfl rfl rfl rfl rfl
      · omega
    · omega
  · omega
theorem ok_flush1 (hN : Num s) (h : s 3 = s 4) : Ok G kX6_flush 8 [.inr (some o)] sz (MM m o s sp pa sv sh ish tx ln cl bf mk st) 0 0 (PX m o (-5) sz s pa sv sh ish tx ln) := by
  refine Ok.body [some (.inr (some o)), none] rfl (Nat.le_of_ble_eq_true rfl) (by decide) ?_
  obtain ⟨n0, n1, n2, n3, n4⟩ := id hN
  refine V.ald0 aX6_flush_0 ?_
  refine M.gf aX6_flush_1 fl_RX6_7 rfl ?_
  refine V.iconst aX6_flush_4 (by decide) ?_
  refine M.lds aX6_flush_5 (by omega) ?_
  refine V.ald0 aX6_flush_6 ?_
  refine M.gf aX6_flush_7 fl_RX6_7 rfl ?_
  refine V.iconst aX6_flush_10 (by decide) ?_
  refine M.lds aX6_flush_11 (by omega) ?_
  refine V.isub aX6_flush_12 (by omega) ?_
  refine V.ist1 aX6_flush_13 ?_
  refine V.ild1 aX6_flush_14 ?_
  refine V.if_ne aX6_flush_15 (tgt := 21) (by decide) (fun c15 => ?_) (fun c15 => ?_)
  · refine V.ald0 aX6_flush_21 ?_
    refine V.ald0 aX6_flush_22 ?_
    omega
  · refine V.bipush aX6_flush_18 (by decide) (by decide) ?_
    refine V.iret aX6_flush_20 rfl (by decide) ?_
    exact PX.of rfl rfl rfl rfl rfl rfl rfl rfl
theorem ok_flush2 (hN : Num s) (h : s 3 ≠ s 4) (hv : 0 ≤ sv ∧ sv ≤ 4) : Ok G kX6_flush 8 [.inr (some o)] sz (MM m o s sp pa sv sh ish tx ln cl bf mk st) 0 0 (PX m o (s 3 - s 4) sz (upI s 4 (s 3)) (recA pa sv s) (recV sv) sh ish tx ln) := by
  refine Ok.body [some (.inr (some o)), none] rfl (Nat.le_of_ble_eq_true rfl) (by decide) ?_
  obtain ⟨n0, n1, n2, n3, n4⟩ := id hN
  refine V.ald0 aX6_flush_0 ?_
  refine M.gf aX6_flush_1 fl_RX6_7 rfl ?_
  refine V.iconst aX6_flush_4 (by decide) ?_
  refine M.lds aX6_flush_5 (by omega) ?_
  refine V.ald0 aX6_flush_6 ?_
  refine M.gf aX6_flush_7 fl_RX6_7 rfl ?_
  refine V.iconst aX6_flush_10 (by decide) ?_
  refine M.lds aX6_flush_11 (by omega) ?_
  refine V.isub aX6_flush_12 (by omega) ?_
  refine V.ist1 aX6_flush_13 ?_
  refine V.ild1 aX6_flush_14 ?_
  refine V.if_ne aX6_flush_15 (tgt := 21) (by decide) (fun c15 => ?_) (fun c15 => ?_)
  · refine V.ald0 aX6_flush_21 ?_
    refine V.ald0 aX6_flush_22 ?_
    refine M.gf aX6_flush_23 fl_RX6_7 rfl ?_
    refine call_X6_records aX6_flush_26 gl_RX6_51 (ok_records (fun _ _ => MM_s) (by omega) (by omega)) (MM_o) (Nat.le_of_ble_eq_true rfl) (by decide) (goV ?_)
    refine V.ald0 aX6_flush_29 ?_
    refine M.gf aX6_flush_30 fl_RX6_7 rfl ?_
    refine V.iconst aX6_flush_33 (by decide) ?_
    refine V.ald0 aX6_flush_34 ?_
    refine M.gf aX6_flush_35 fl_RX6_7 rfl ?_
    refine V.iconst aX6_flush_38 (by decide) ?_
    refine M.lds aX6_flush_39 (by omega) ?_
    refine M.sts aX6_flush_40 (by omega) ?_
    refine V.ild1 aX6_flush_41 ?_
    refine V.iret aX6_flush_42 rfl (by decide) ?_
    exact PX.of rfl rfl rfl rfl rfl rfl rfl rfl
  · refine V.bipush aX6_flush_18 (by decide) (by decide) ?_
    omega
theorem ok_trim1 (hN : Num s) (hE : EntS s) (h : droppable s 0 = 0) : Ok G kX6_trim 8 [.inr (some o)] sz (MM m o s sp pa sv sh ish tx ln cl bf mk st) 0 0 (PX m o (-5) sz s pa sv sh ish tx ln) := by
  refine Ok.body [some (.inr (some o)), none] rfl (Nat.le_of_ble_eq_true rfl) (by decide) ?_
  refine V.ald0 aX6_trim_0 ?_
  refine V.iconst aX6_trim_1 (by decide) ?_
  refine call_X6_droppable aX6_trim_2 gl_RX6_106 (ok_droppable hN hE (by omega)) (MM_o) (Nat.le_of_ble_eq_true rfl) (by decide) (goI ?_)
  refine V.ist1 aX6_trim_5 ?_
  refine V.ild1 aX6_trim_6 ?_
  refine V.if_ne aX6_trim_7 (tgt := 13) (by decide) (fun c7 => ?_) (fun c7 => ?_)
  · omega
  · refine V.bipush aX6_trim_10 (by decide) (by decide) ?_
    refine V.iret aX6_trim_12 rfl (by decide) ?_
    exact PX.of rfl rfl rfl rfl rfl rfl rfl rfl
theorem ok_trim2 (hN : Num s) (hE : EntS s) (h : droppable s 0 ≠ 0) (hv : 0 ≤ sv ∧ sv ≤ 4) : Ok G kX6_trim 8 [.inr (some o)] sz (MM m o s sp pa sv sh ish tx ln cl bf mk st) 0 0 (PX m o (droppable s 0) sz (dropsF s (droppable s 0)) (recA pa sv s) (recV sv) sh ish tx ln) := by
  refine Ok.body [some (.inr (some o)), none] rfl (Nat.le_of_ble_eq_true rfl) (by decide) ?_
  obtain ⟨n0, n1, n2, n3, n4⟩ := id hN
  have hd := droppable_b (most := 0) hN
  refine V.ald0 aX6_trim_0 ?_
  refine V.iconst aX6_trim_1 (by decide) ?_
  refine call_X6_droppable aX6_trim_2 gl_RX6_106 (ok_droppable hN hE (by omega)) (MM_o) (Nat.le_of_ble_eq_true rfl) (by decide) (goI ?_)
  refine V.ist1 aX6_trim_5 ?_
  refine V.ild1 aX6_trim_6 ?_
  refine V.if_ne aX6_trim_7 (tgt := 13) (by decide) (fun c7 => ?_) (fun c7 => ?_)
  · refine V.ald0 aX6_trim_13 ?_
    refine V.ald0 aX6_trim_14 ?_
    refine M.gf aX6_trim_15 fl_RX6_7 rfl ?_
    refine call_X6_records aX6_trim_18 gl_RX6_51 (ok_records (fun _ _ => MM_s) (by omega) (by omega)) (MM_o) (Nat.le_of_ble_eq_true rfl) (by decide) (goV ?_)
    refine V.ald0 aX6_trim_21 ?_
    refine V.ild1 aX6_trim_22 ?_
    refine call_X6_drops aX6_trim_23 gl_RX6_112 (ok_drops hN hE (by omega) (by omega)) (MM_o) (Nat.le_of_ble_eq_true rfl) (by decide) (goV ?_)
    refine V.ild1 aX6_trim_26 ?_
    refine V.iret aX6_trim_27 rfl (by decide) ?_
    exact PX.of rfl rfl rfl rfl rfl rfl rfl rfl
  · omega
theorem ok_store1 {p : Int} (h : ¬ (0 ≤ p ∧ p ≤ 5)) : Ok G kX6_store 8 [.inr (some o), .inl p] sz (MM m o s sp pa sv sh ish tx ln cl bf mk st) 0 0 (PX m o (-1) sz s pa sv sh ish tx ln) := by
  refine Ok.body [some (.inr (some o)), some (.inl p), none, none] rfl (Nat.le_of_ble_eq_true rfl) (by decide) ?_
  refine V.ild1 aX6_store_0 ?_
  refine call_X6_isPage aX6_store_1 gl_RX6_125 (ok_isPage) (Nat.le_of_ble_eq_true rfl) (by decide) (goI ?_)
  refine V.ifb_ne aX6_store_4 (tgt := 9) (by decide) (fun c4 => ?_) (fun c4 => ?_)
  · omega
  · refine V.iconst aX6_store_7 (by decide) ?_
    refine V.iret aX6_store_8 rfl (by decide) ?_
    exact PX.of rfl rfl rfl rfl rfl rfl rfl rfl
theorem ok_store2 {p : Int} (hN : Num s) (h : 0 ≤ p ∧ p ≤ 5) {j : Int} (hj : s 4 ≤ j ∧ j < s 3 ∧ ofE s j 0 = p) : Ok G kX6_store 8 [.inr (some o), .inl p] sz (MM m o s sp pa sv sh ish tx ln cl bf mk st) 0 0 (PX m o (-4) sz s pa sv sh ish tx ln) := by
  refine Ok.body [some (.inr (some o)), some (.inl p), none, none] rfl (Nat.le_of_ble_eq_true rfl) (by decide) ?_
  obtain ⟨n0, n1, n2, n3, n4⟩ := id hN
  have loop : ∀ (n : Nat) (k : Int), (s 3 - k).toNat < n → s 4 ≤ k → k ≤ j → V G kX6_store (rmM 8 0 0) (QfM G (PX m o (-4) sz s pa sv sh ish tx ln) 0 0) 16 [some (.inr (some o)), some (.inl p), some (.inl k), none] [] sz (MM m o s sp pa sv sh ish tx ln cl bf mk st) 0 0 := by
    intro n
    induction n with
    | zero => intro k h; omega
    | succ n ih =>
      intro k hn hk1 hk2
      refine V.ild2 aX6_store_16 ?_
      refine V.ald0 aX6_store_17 ?_
      refine M.gf aX6_store_18 fl_RX6_7 rfl ?_
      refine V.iconst aX6_store_21 (by decide) ?_
      refine M.lds aX6_store_22 (by omega) ?_
      refine V.icmp_ge aX6_store_23 (tgt := 45) (by decide) (fun c23 => ?_) (fun c23 => ?_)
      · omega
      · refine V.ald0 aX6_store_26 ?_
        refine V.ild2 aX6_store_27 ?_
        refine V.iconst aX6_store_28 (by decide) ?_
        refine call_X6_of aX6_store_29 gl_RX6_66 (ok_of (by omega) (by omega) (by omega) (by omega) (by omega)) (MM_o) (Nat.le_of_ble_eq_true rfl) (by decide) (goI ?_)
        refine V.ild1 aX6_store_32 ?_
        refine V.icmp_ne aX6_store_33 (tgt := 39) (by decide) (fun c33 => ?_) (fun c33 => ?_)
        · refine V.inc2 aX6_store_39 (by omega) ?_
          refine V.goto aX6_store_42 (tgt := 16) (by decide) ?_
          by_cases e : k = j
          · subst e
            exact absurd hj.2.2 c33
          · exact ih (k + 1) (by omega) (by omega) (by omega)
        · refine V.bipush aX6_store_36 (by decide) (by decide) ?_
          refine V.iret aX6_store_38 rfl (by decide) ?_
          exact PX.of rfl rfl rfl rfl rfl rfl rfl rfl
  refine V.ild1 aX6_store_0 ?_
  refine call_X6_isPage aX6_store_1 gl_RX6_125 (ok_isPage) (Nat.le_of_ble_eq_true rfl) (by decide) (goI ?_)
  refine V.ifb_ne aX6_store_4 (tgt := 9) (by decide) (fun c4 => ?_) (fun c4 => ?_)
  · refine V.ald0 aX6_store_9 ?_
    refine M.gf aX6_store_10 fl_RX6_7 rfl ?_
    refine V.iconst aX6_store_13 (by decide) ?_
    refine M.lds aX6_store_14 (by omega) ?_
    refine V.ist2 aX6_store_15 ?_
    exact loop _ _ (Nat.lt_succ_self _) (Int.le_refl _) hj.1
  · omega
theorem ok_store3 {p : Int} (hN : Num s) (hE : EntS s) (h : 0 ≤ p ∧ p ≤ 5) (hj : ∀ j, s 4 ≤ j → j < s 3 → ofE s j 0 ≠ p) (hv : 0 ≤ sv ∧ sv ≤ 4) : Ok G kX6_store 8 [.inr (some o), .inl p] sz (MM m o s sp pa sv sh ish tx ln cl bf mk st) 0 0 (PX m o (neededMany s - neededMany (storeF s p)) sz (storeF s p) (recA pa sv s) (recV sv) sh ish tx ln) := by
  refine Ok.body [some (.inr (some o)), some (.inl p), none, none] rfl (Nat.le_of_ble_eq_true rfl) (by decide) ?_
  obtain ⟨n0, n1, n2, n3, n4⟩ := id hN
  have nb : ∀ t : Int → Int, t 2 ≤ t 3 → 0 ≤ neededMany t ∧ neededMany t ≤ t 3 - t 2 := fun t ht => foldI_ind (f := fun n k => n + b2 (isN t k)) (z := 0) (a := t 2) (fun k x => 0 ≤ x ∧ x ≤ k - t 2) (by omega) (fun k x g0 g1 => by have := b2_01 (P := isN t k); omega) (t 3) ht
  have hq2 := storeF_o (s := s) (p := p) (j := 2) (by omega) (by omega) (by omega) (by omega)
  have hq3 := storeF_o (s := s) (p := p) (j := 3) (by omega) (by omega) (by omega) (by omega)
  have hq4 := storeF_o (s := s) (p := p) (j := 4) (by omega) (by omega) (by omega) (by omega)
  have hN2 : Num (storeF s p) := hN.congr hq2 hq4 (by omega)
  have hE2 : EntS (storeF s p) := hE.congr hq2 (by omega) (fun j hj => storeF_o (by omega) (by omega) (by omega) (by omega))
  have b1 := nb s (by omega)
  have b3 := nb (storeF s p) (by omega)
  have loop2 : ∀ (n : Nat) (k : Int), (12 - k).toNat < n → 0 ≤ k → k ≤ 12 → V G kX6_store (rmM 8 0 0) (QfM G (PX m o (neededMany s - neededMany (storeF s p)) sz (storeF s p) (recA pa sv s) (recV sv) sh ish tx ln) 0 0) 60 [some (.inr (some o)), some (.inl p), some (.inl (neededMany s)), some (.inl k)] [] sz (MM m o (cpy s (8 + 12 * p) s (80 + 12 * p) k) sp (recA pa sv s) (recV sv) sh ish tx ln cl bf mk st) 0 0 := by
    intro n
    induction n with
    | zero => intro k h; omega
    | succ n ih =>
      intro k hn hk1 hk2
      refine V.ild3 aX6_store_60 ?_
      refine V.bipush aX6_store_61 (by decide) (by decide) ?_
      refine V.icmp_ge aX6_store_63 (tgt := 100) (by decide) (fun c63 => ?_) (fun c63 => ?_)
      · rw [show k = 12 by omega]
        refine V.ald0 aX6_store_100 ?_
        refine M.gf aX6_store_101 fl_RX6_7 rfl ?_
        refine V.sipush aX6_store_104 (by decide) (by decide) ?_
        refine V.ild1 aX6_store_107 ?_
        refine V.iadd aX6_store_108 (by omega) ?_
        refine V.ald0 aX6_store_109 ?_
        refine M.gf aX6_store_110 fl_RX6_7 rfl ?_
        refine V.iconst aX6_store_113 (by decide) ?_
        refine M.lds aX6_store_114 (by omega) ?_
        rw [cpy_out (j := 4) (by omega)]
        refine M.sts aX6_store_115 (by omega) ?_
        refine V.ald0 aX6_store_116 ?_
        refine M.gf aX6_store_117 fl_RX6_7 rfl ?_
        refine V.sipush aX6_store_120 (by decide) (by decide) ?_
        refine V.ild1 aX6_store_123 ?_
        refine V.iadd aX6_store_124 (by omega) ?_
        refine V.iconst aX6_store_125 (by decide) ?_
        refine M.sts aX6_store_126 (by omega) ?_
        refine V.mem (m2 := (MM m o (storeF s p) sp (recA pa sv s) (recV sv) sh ish tx ln cl bf mk st)) rfl ?_
        refine V.ild2 aX6_store_127 ?_
        refine V.ald0 aX6_store_128 ?_
        refine call_X6_neededMany aX6_store_129 gl_RX6_171 (ok_neededMany hN2 hE2) (MM_o) (Nat.le_of_ble_eq_true rfl) (by decide) (goI ?_)
        refine V.isub aX6_store_132 (by omega) ?_
        refine V.iret aX6_store_133 rfl (by decide) ?_
        exact PX.of rfl rfl rfl rfl rfl rfl rfl rfl
      · refine V.ald0 aX6_store_66 ?_
        refine M.gf aX6_store_67 fl_RX6_7 rfl ?_
        refine V.bipush aX6_store_70 (by decide) (by decide) ?_
        refine V.bipush aX6_store_72 (by decide) (by decide) ?_
        refine V.ild1 aX6_store_74 ?_
        refine V.imul aX6_store_75 (by omega) ?_
        refine V.iadd aX6_store_76 (by omega) ?_
        refine V.ild3 aX6_store_77 ?_
        refine V.iadd aX6_store_78 (by omega) ?_
        refine V.ald0 aX6_store_79 ?_
        refine M.gf aX6_store_80 fl_RX6_7 rfl ?_
        refine V.bipush aX6_store_83 (by decide) (by decide) ?_
        refine V.bipush aX6_store_85 (by decide) (by decide) ?_
        refine V.ild1 aX6_store_87 ?_
        refine V.imul aX6_store_88 (by omega) ?_
        refine V.iadd aX6_store_89 (by omega) ?_
        refine V.ild3 aX6_store_90 ?_
        refine V.iadd aX6_store_91 (by omega) ?_
        refine M.lds aX6_store_92 (by omega) ?_
        rw [cpy_out (j := 8 + 12 * p + k) (by omega)]
        refine M.sts aX6_store_93 (by omega) ?_
        refine V.inc3 aX6_store_94 (by omega) ?_
        refine V.goto aX6_store_97 (tgt := 60) (by decide) ?_
        rw [cpy_s hk1 rfl rfl]
        exact ih (k + 1) (by omega) (by omega) (by omega)
  have loop : ∀ (n : Nat) (k : Int), (s 3 - k).toNat < n → s 4 ≤ k → k ≤ s 3 → V G kX6_store (rmM 8 0 0) (QfM G (PX m o (neededMany s - neededMany (storeF s p)) sz (storeF s p) (recA pa sv s) (recV sv) sh ish tx ln) 0 0) 16 [some (.inr (some o)), some (.inl p), some (.inl k), none] [] sz (MM m o s sp pa sv sh ish tx ln cl bf mk st) 0 0 := by
    intro n
    induction n with
    | zero => intro k h; omega
    | succ n ih =>
      intro k hn hk1 hk2
      refine V.ild2 aX6_store_16 ?_
      refine V.ald0 aX6_store_17 ?_
      refine M.gf aX6_store_18 fl_RX6_7 rfl ?_
      refine V.iconst aX6_store_21 (by decide) ?_
      refine M.lds aX6_store_22 (by omega) ?_
      refine V.icmp_ge aX6_store_23 (tgt := 45) (by decide) (fun c23 => ?_) (fun c23 => ?_)
      · refine V.ald0 aX6_store_45 ?_
        refine V.ald0 aX6_store_46 ?_
        refine M.gf aX6_store_47 fl_RX6_7 rfl ?_
        refine call_X6_records aX6_store_50 gl_RX6_51 (ok_records (fun _ _ => MM_s) (by omega) (by omega)) (MM_o) (Nat.le_of_ble_eq_true rfl) (by decide) (goV ?_)
        refine V.ald0 aX6_store_53 ?_
        refine call_X6_neededMany aX6_store_54 gl_RX6_171 (ok_neededMany hN hE) (MM_o) (Nat.le_of_ble_eq_true rfl) (by decide) (goI ?_)
        refine V.ist2 aX6_store_57 ?_
        refine V.iconst aX6_store_58 (by decide) ?_
        refine V.ist3 aX6_store_59 ?_
        refine V.mem (m2 := (MM m o (cpy s (8 + 12 * p) s (80 + 12 * p) 0) sp (recA pa sv s) (recV sv) sh ish tx ln cl bf mk st)) (by rw [cpy_0 (n := 0) (by decide)]) ?_
        exact loop2 _ 0 (Nat.lt_succ_self _) (by decide) (by decide)
      · refine V.ald0 aX6_store_26 ?_
        refine V.ild2 aX6_store_27 ?_
        refine V.iconst aX6_store_28 (by decide) ?_
        refine call_X6_of aX6_store_29 gl_RX6_66 (ok_of (by omega) (by omega) (by omega) (by omega) (by omega)) (MM_o) (Nat.le_of_ble_eq_true rfl) (by decide) (goI ?_)
        refine V.ild1 aX6_store_32 ?_
        refine V.icmp_ne aX6_store_33 (tgt := 39) (by decide) (fun c33 => ?_) (fun c33 => ?_)
        · refine V.inc2 aX6_store_39 (by omega) ?_
          refine V.goto aX6_store_42 (tgt := 16) (by decide) ?_
          exact ih (k + 1) (by omega) (by omega) (by omega)
        · exact absurd c33 (hj k hk1 (by omega))
  refine V.ild1 aX6_store_0 ?_
  refine call_X6_isPage aX6_store_1 gl_RX6_125 (ok_isPage) (Nat.le_of_ble_eq_true rfl) (by decide) (goI ?_)
  refine V.ifb_ne aX6_store_4 (tgt := 9) (by decide) (fun c4 => ?_) (fun c4 => ?_)
  · refine V.ald0 aX6_store_9 ?_
    refine M.gf aX6_store_10 fl_RX6_7 rfl ?_
    refine V.iconst aX6_store_13 (by decide) ?_
    refine M.lds aX6_store_14 (by omega) ?_
    refine V.ist2 aX6_store_15 ?_
    exact loop _ _ (Nat.lt_succ_self _) (Int.le_refl _) (by omega)
  · omega
theorem ok_damage1 {e : Int} (hN : Num s) (h : ¬ (s 2 ≤ e ∧ e ≤ s 3 - 1)) : Ok G kX6_damage 8 [.inr (some o), .inl e] sz (MM m o s sp pa sv sh ish tx ln cl bf mk st) 0 0 (PX m o (-1) sz s pa sv sh ish tx ln) := by
  refine Ok.body [some (.inr (some o)), some (.inl e), none, none] rfl (Nat.le_of_ble_eq_true rfl) (by decide) ?_
  obtain ⟨n0, n1, n2, n3, n4⟩ := id hN
  refine V.ald0 aX6_damage_0 ?_
  refine V.ild1 aX6_damage_1 ?_
  refine call_X6_isHeld aX6_damage_2 gl_RX6_174 (ok_isHeld (by omega) (by omega) (by omega)) (MM_o) (Nat.le_of_ble_eq_true rfl) (by decide) (goI ?_)
  refine V.ifb_ne aX6_damage_5 (tgt := 10) (by decide) (fun c5 => ?_) (fun c5 => ?_)
  · omega
  · refine V.iconst aX6_damage_8 (by decide) ?_
    refine V.iret aX6_damage_9 rfl (by decide) ?_
    exact PX.of rfl rfl rfl rfl rfl rfl rfl rfl
theorem ok_damage2 {e : Int} (hN : Num s) (h : s 2 ≤ e ∧ e ≤ s 3 - 1) (h2 : ofE s e 4 = 1) : Ok G kX6_damage 8 [.inr (some o), .inl e] sz (MM m o s sp pa sv sh ish tx ln cl bf mk st) 0 0 (PX m o (-5) sz s pa sv sh ish tx ln) := by
  refine Ok.body [some (.inr (some o)), some (.inl e), none, none] rfl (Nat.le_of_ble_eq_true rfl) (by decide) ?_
  obtain ⟨n0, n1, n2, n3, n4⟩ := id hN
  refine V.ald0 aX6_damage_0 ?_
  refine V.ild1 aX6_damage_1 ?_
  refine call_X6_isHeld aX6_damage_2 gl_RX6_174 (ok_isHeld (by omega) (by omega) (by omega)) (MM_o) (Nat.le_of_ble_eq_true rfl) (by decide) (goI ?_)
  refine V.ifb_ne aX6_damage_5 (tgt := 10) (by decide) (fun c5 => ?_) (fun c5 => ?_)
  · refine V.ald0 aX6_damage_10 ?_
    refine V.ild1 aX6_damage_11 ?_
    refine V.iconst aX6_damage_12 (by decide) ?_
    refine call_X6_of aX6_damage_13 gl_RX6_66 (ok_of (by omega) (by omega) (by omega) (by omega) (by omega)) (MM_o) (Nat.le_of_ble_eq_true rfl) (by decide) (goI ?_)
    refine V.iconst aX6_damage_16 (by decide) ?_
    refine V.icmp_ne aX6_damage_17 (tgt := 23) (by decide) (fun c17 => ?_) (fun c17 => ?_)
    · exact absurd h2 c17
    · refine V.bipush aX6_damage_20 (by decide) (by decide) ?_
      refine V.iret aX6_damage_22 rfl (by decide) ?_
      exact PX.of rfl rfl rfl rfl rfl rfl rfl rfl
  · omega
theorem ok_damage3 {e : Int} (hN : Num s) (h : s 2 ≤ e ∧ e ≤ s 3 - 1) (h2 : ofE s e 4 ≠ 1) (hv : 0 ≤ sv ∧ sv ≤ 4) : Ok G kX6_damage 8 [.inr (some o), .inl e] sz (MM m o s sp pa sv sh ish tx ln cl bf mk st) 0 0 (PX m o (dmgZ (upI s (170 + 17 * (e - s 2) + 4) 1)) sz (upI s (170 + 17 * (e - s 2) + 4) 1) (recA pa sv s) (recV sv) sh ish tx ln) := by
  refine Ok.body [some (.inr (some o)), some (.inl e), none, none] rfl (Nat.le_of_ble_eq_true rfl) (by decide) ?_
  obtain ⟨n0, n1, n2, n3, n4⟩ := id hN
  obtain ⟨t, ht⟩ : ∃ t, t = upI s (170 + 17 * (e - s 2) + 4) 1 := ⟨_, rfl⟩
  rw [← ht]
  have t2 : t 2 = s 2 := by rw [ht, upI_n (by omega)]
  have t3 : t 3 = s 3 := by rw [ht, upI_n (by omega)]
  have t4 : t 4 = s 4 := by rw [ht, upI_n (by omega)]
  have hN2 : Num t := hN.congr t2 t4 (by omega)
  have loop : ∀ (n : Nat) (k r : Int), (6 - k).toNat < n → 0 ≤ k → k ≤ 6 → (0 ≤ r ∧ r ≤ k) → r = foldI (fun n p => n + (if firstDam t p (t 3) = -5 then 0 else 1)) 0 0 k → V G kX6_damage (rmM 8 0 0) (QfM G (PX m o (dmgZ t) sz t (recA pa sv s) (recV sv) sh ish tx ln) 0 0) 48 [some (.inr (some o)), some (.inl e), some (.inl r), some (.inl k)] [] sz (MM m o t sp (recA pa sv s) (recV sv) sh ish tx ln cl bf mk st) 0 0 := by
    intro n
    induction n with
    | zero => intro k r h; omega
    | succ n ih =>
      intro k r hn hk1 hk2 hb hr
      refine V.ild3 aX6_damage_48 ?_
      refine V.bipush aX6_damage_49 (by decide) (by decide) ?_
      refine V.icmp_ge aX6_damage_51 (tgt := 84) (by decide) (fun c51 => ?_) (fun c51 => ?_)
      · refine V.ild2 aX6_damage_84 ?_
        refine V.iret aX6_damage_85 rfl (by decide) ?_
        exact PX.of (by rw [hr, show k = 6 by omega]; rfl) rfl rfl rfl rfl rfl rfl rfl
      · refine V.ild2 aX6_damage_54 ?_
        refine V.ald0 aX6_damage_55 ?_
        refine V.ild3 aX6_damage_56 ?_
        refine V.ald0 aX6_damage_57 ?_
        refine M.gf aX6_damage_58 fl_RX6_7 rfl ?_
        refine V.iconst aX6_damage_61 (by decide) ?_
        refine M.lds aX6_damage_62 (by omega) ?_
        refine call_X6_firstDamaged aX6_damage_63 gl_RX6_177 (ok_firstDamaged hN2 (by omega) (by omega) (by omega)) (MM_o) (Nat.le_of_ble_eq_true rfl) (by decide) (goI ?_)
        refine V.bipush aX6_damage_66 (by decide) (by decide) ?_
        refine V.icmp_ne aX6_damage_68 (tgt := 75) (by decide) (fun c68 => ?_) (fun c68 => ?_)
        · refine V.iconst aX6_damage_75 (by decide) ?_
          refine V.iadd aX6_damage_76 (by omega) ?_
          refine V.ist2 aX6_damage_77 ?_
          refine V.inc3 aX6_damage_78 (by omega) ?_
          refine V.goto aX6_damage_81 (tgt := 48) (by decide) ?_
          refine ih (k + 1) _ (by omega) (by omega) (by omega) (by omega) ?_
          rw [foldI_s (by omega), ← hr]
          first | rw [if_pos c68] | rw [if_neg c68]
        · refine V.iconst aX6_damage_71 (by decide) ?_
          refine V.goto aX6_damage_72 (tgt := 76) (by decide) ?_
          refine V.iadd aX6_damage_76 (by omega) ?_
          refine V.ist2 aX6_damage_77 ?_
          refine V.inc3 aX6_damage_78 (by omega) ?_
          refine V.goto aX6_damage_81 (tgt := 48) (by decide) ?_
          refine ih (k + 1) _ (by omega) (by omega) (by omega) (by omega) ?_
          rw [foldI_s (by omega), ← hr]
          first | rw [if_pos c68] | rw [if_neg c68]
  refine V.ald0 aX6_damage_0 ?_
  refine V.ild1 aX6_damage_1 ?_
  refine call_X6_isHeld aX6_damage_2 gl_RX6_174 (ok_isHeld (by omega) (by omega) (by omega)) (MM_o) (Nat.le_of_ble_eq_true rfl) (by decide) (goI ?_)
  refine V.ifb_ne aX6_damage_5 (tgt := 10) (by decide) (fun c5 => ?_) (fun c5 => ?_)
  · refine V.ald0 aX6_damage_10 ?_
    refine V.ild1 aX6_damage_11 ?_
    refine V.iconst aX6_damage_12 (by decide) ?_
    refine call_X6_of aX6_damage_13 gl_RX6_66 (ok_of (by omega) (by omega) (by omega) (by omega) (by omega)) (MM_o) (Nat.le_of_ble_eq_true rfl) (by decide) (goI ?_)
    refine V.iconst aX6_damage_16 (by decide) ?_
    refine V.icmp_ne aX6_damage_17 (tgt := 23) (by decide) (fun c17 => ?_) (fun c17 => ?_)
    · refine V.ald0 aX6_damage_23 ?_
      refine V.ald0 aX6_damage_24 ?_
      refine M.gf aX6_damage_25 fl_RX6_7 rfl ?_
      refine call_X6_records aX6_damage_28 gl_RX6_51 (ok_records (fun _ _ => MM_s) (by omega) (by omega)) (MM_o) (Nat.le_of_ble_eq_true rfl) (by decide) (goV ?_)
      refine V.ald0 aX6_damage_31 ?_
      refine M.gf aX6_damage_32 fl_RX6_7 rfl ?_
      refine V.ald0 aX6_damage_35 ?_
      refine V.ild1 aX6_damage_36 ?_
      refine call_X6_at aX6_damage_37 gl_RX6_55 (ok_at (by omega) (by omega) (by omega)) (MM_o) (Nat.le_of_ble_eq_true rfl) (by decide) (goI ?_)
      refine V.iconst aX6_damage_40 (by decide) ?_
      refine V.iadd aX6_damage_41 (by omega) ?_
      refine V.iconst aX6_damage_42 (by decide) ?_
      refine M.sts aX6_damage_43 (by omega) ?_
      rw [← ht]
      refine V.iconst aX6_damage_44 (by decide) ?_
      refine V.ist2 aX6_damage_45 ?_
      refine V.iconst aX6_damage_46 (by decide) ?_
      refine V.ist3 aX6_damage_47 ?_
      exact loop _ 0 0 (Nat.lt_succ_self _) (by decide) (by decide) (by decide) (foldI_0 (by decide)).symm
    · exact absurd c17 h2
  · omega
theorem ok_comesBack {p : Int} (hN : Num s) (hE : EntS s) (hC : CellS s) (hp : 0 ≤ p ∧ p < 6) : Ok G kX6_comesBack 5 [.inr (some o), .inl p] sz (MM m o s sp pa sv sh ish tx ln cl bf mk st) 0 0 (PV sz (MM m o (backS s cl bf p) sp pa sv sh ish tx ln (backQ s cl bf p).1 (backQ s cl bf p).2 mk st)) := by
  refine Ok.body [some (.inr (some o)), some (.inl p), none, none, none] rfl (Nat.le_of_ble_eq_true rfl) (by decide) ?_
  obtain ⟨n0, n1, n2, n3, n4⟩ := id hN
  obtain ⟨t, ht⟩ : ∃ t, t = backD s p := ⟨_, rfl⟩
  have tn : ∀ j, j ≠ 158 + p → t j = s j := fun j hj => by rw [ht]; exact backD_n hj
  have t2 := tn 2 (by omega)
  have t3 := tn 3 (by omega)
  have t4 := tn 4 (by omega)
  have hN2 : Num t := hN.congr t2 t4 (by omega)
  have hE2 : EntS t := hE.congr t2 (by omega) (fun j hj => tn j (by omega))
  have hC2 : CellS t := fun i i0 i1 => by rw [tn i (by omega)]; exact hC i i0 i1
  have fd : ∀ e, firstDam t p e = firstDam s p e := fun e => firstDam_congr t2 (tn _ (by omega)) (fun j hj => tn j (by omega))
  have hb := sndE_b (s := t) (p := p) 200 (s 3) (by omega)
  obtain ⟨F, hF⟩ : ∃ F, F = sndE t p 200 (s 3) := ⟨_, rfl⟩
  obtain ⟨q, hq⟩ : ∃ q, q = backQ s cl bf p := ⟨_, rfl⟩
  have eQ : q = restQ t p (sndE t p 200 (s 3)) cl bf := by rw [hq, ht]; rfl
  have loop2 : ∀ (n : Nat) (k x y : Int), (12 - k).toNat < n → 0 ≤ k → k ≤ 12 → V G kX6_comesBack (rmM 5 0 0) (QfM G (PV sz (MM m o (backS s cl bf p) sp pa sv sh ish tx ln (backQ s cl bf p).1 (backQ s cl bf p).2 mk st)) 0 0) 62 [some (.inr (some o)), some (.inl p), some (.inl x), some (.inl y), some (.inl k)] [] sz (MM m o (cpy q.1 0 t (8 + 12 * p) k) sp pa sv sh ish tx ln q.1 q.2 mk st) 0 0 := by
    intro n
    induction n with
    | zero => intro k x y h; omega
    | succ n ih =>
      intro k x y hn hk1 hk2
      refine V.ild4 aX6_comesBack_62 ?_
      refine V.bipush aX6_comesBack_64 (by decide) (by decide) ?_
      refine V.icmp_ge aX6_comesBack_66 (tgt := 97) (by decide) (fun c66 => ?_) (fun c66 => ?_)
      · refine V.ret aX6_comesBack_97 rfl (by decide) ?_
        exact PV.of (by rw [show k = 12 by omega, hq, ht]; rfl)
      · refine V.ald0 aX6_comesBack_69 ?_
        refine M.gf aX6_comesBack_70 fl_RX6_7 rfl ?_
        refine V.bipush aX6_comesBack_73 (by decide) (by decide) ?_
        refine V.bipush aX6_comesBack_75 (by decide) (by decide) ?_
        refine V.ild1 aX6_comesBack_77 ?_
        refine V.imul aX6_comesBack_78 (by omega) ?_
        refine V.iadd aX6_comesBack_79 (by omega) ?_
        refine V.ild4 aX6_comesBack_80 ?_
        refine V.iadd aX6_comesBack_82 (by omega) ?_
        refine V.ald0 aX6_comesBack_83 ?_
        refine M.gf aX6_comesBack_84 fl_RX6_26 rfl ?_
        refine V.ild4 aX6_comesBack_87 ?_
        refine M.ldcl aX6_comesBack_89 (by omega) ?_
        refine M.sts aX6_comesBack_90 (by omega) ?_
        refine V.inc4 aX6_comesBack_91 (by omega) ?_
        refine V.goto aX6_comesBack_94 (tgt := 62) (by decide) ?_
        rw [cpy_s hk1 (by rw [Int.zero_add]) rfl]
        exact ih (k + 1) _ _ (by omega) (by omega) (by omega)
  have loop : ∀ (n : Nat) (f : Nat) (e b : Int), (e - s 2).toNat < n → s 2 ≤ e → e ≤ s 3 → (e - s 2).toNat < f → b = firstDam t p e → sndE t p f e = F → V G kX6_comesBack (rmM 5 0 0) (QfM G (PV sz (MM m o (backS s cl bf p) sp pa sv sh ish tx ln (backQ s cl bf p).1 (backQ s cl bf p).2 mk st)) 0 0) 35 [some (.inr (some o)), some (.inl p), some (.inl e), some (.inl b), none] [] sz (MM m o t sp pa sv sh ish tx ln cl bf mk st) 0 0 := by
    intro n
    induction n with
    | zero => intro f e b h; omega
    | succ n ih =>
      intro f e b hn he1 he2 hf hbb hs
      obtain ⟨f', rfl⟩ : ∃ f', f = f' + 1 := ⟨f - 1, by omega⟩
      have fb := firstDam_b (s := t) (p := p) (e := e) (by omega)
      rw [← hbb] at fb
      unfold sndE at hs
      rw [← hbb] at hs
      refine V.ild3 aX6_comesBack_35 ?_
      refine V.bipush aX6_comesBack_36 (by decide) (by decide) ?_
      refine V.icmp_eq aX6_comesBack_38 (tgt := 53) (by decide) (fun c38 => ?_) (fun c38 => ?_)
      · rw [if_pos c38] at hs
        refine V.ald0 aX6_comesBack_53 ?_
        refine V.ild1 aX6_comesBack_54 ?_
        refine V.ild2 aX6_comesBack_55 ?_
        refine call_X6_restores aX6_comesBack_56 gl_RX6_180 (ok_restores hN2 hE2 hC2 hp (by omega) (by omega)) (MM_o) (Nat.le_of_ble_eq_true rfl) (by decide) (goV ?_)
        rw [hs, hF, ← eQ]
        refine V.iconst aX6_comesBack_59 (by decide) ?_
        refine V.ist4 aX6_comesBack_60 ?_
        refine V.mem (m2 := (MM m o (cpy q.1 0 t (8 + 12 * p) 0) sp pa sv sh ish tx ln q.1 q.2 mk st)) (by rw [cpy_0 (n := 0) (by decide)]) ?_
        exact loop2 _ 0 _ _ (Nat.lt_succ_self _) (by decide) (by decide)
      · refine V.ild3 aX6_comesBack_41 ?_
        refine V.ist2 aX6_comesBack_42 ?_
        refine V.ald0 aX6_comesBack_43 ?_
        refine V.ild1 aX6_comesBack_44 ?_
        refine V.ild2 aX6_comesBack_45 ?_
        refine call_X6_firstDamaged aX6_comesBack_46 gl_RX6_177 (ok_firstDamaged hN2 hp (by omega) (by omega)) (MM_o) (Nat.le_of_ble_eq_true rfl) (by decide) (goI ?_)
        refine V.ist3 aX6_comesBack_49 ?_
        refine V.goto aX6_comesBack_50 (tgt := 35) (by decide) ?_
        exact ih f' _ _ (by omega) (by omega) (by omega) (by omega) rfl (by rw [← hs, if_neg c38])
  refine V.ald0 aX6_comesBack_0 ?_
  refine M.gf aX6_comesBack_1 fl_RX6_7 rfl ?_
  refine V.iconst aX6_comesBack_4 (by decide) ?_
  refine M.lds aX6_comesBack_5 (by omega) ?_
  refine V.ist2 aX6_comesBack_6 ?_
  refine V.ald0 aX6_comesBack_7 ?_
  refine V.ild1 aX6_comesBack_8 ?_
  refine V.ild2 aX6_comesBack_9 ?_
  refine call_X6_firstDamaged aX6_comesBack_10 gl_RX6_177 (ok_firstDamaged hN hp (by omega) (by omega)) (MM_o) (Nat.le_of_ble_eq_true rfl) (by decide) (goI ?_)
  refine V.ist3 aX6_comesBack_13 ?_
  refine V.ald0 aX6_comesBack_14 ?_
  refine M.gf aX6_comesBack_15 fl_RX6_7 rfl ?_
  refine V.sipush aX6_comesBack_18 (by decide) (by decide) ?_
  refine V.ild1 aX6_comesBack_21 ?_
  refine V.iadd aX6_comesBack_22 (by omega) ?_
  refine V.ild3 aX6_comesBack_23 ?_
  refine V.bipush aX6_comesBack_24 (by decide) (by decide) ?_
  refine V.icmp_ne aX6_comesBack_26 (tgt := 33) (by decide) (fun c26 => ?_) (fun c26 => ?_)
  · refine V.iconst aX6_comesBack_33 (by decide) ?_
    refine M.sts aX6_comesBack_34 (by omega) ?_
    refine V.mem (m2 := (MM m o t sp pa sv sh ish tx ln cl bf mk st)) (by rw [ht]; unfold backD; first | rw [if_pos c26] | rw [if_neg c26]) ?_
    exact loop _ 200 _ _ (Nat.lt_succ_self _) (by omega) (Int.le_refl _) (by omega) (fd _).symm hF.symm
  · refine V.iconst aX6_comesBack_29 (by decide) ?_
    refine V.goto aX6_comesBack_30 (tgt := 34) (by decide) ?_
    refine M.sts aX6_comesBack_34 (by omega) ?_
    refine V.mem (m2 := (MM m o t sp pa sv sh ish tx ln cl bf mk st)) (by rw [ht]; unfold backD; first | rw [if_pos c26] | rw [if_neg c26]) ?_
    exact loop _ 200 _ _ (Nat.lt_succ_self _) (by omega) (Int.le_refl _) (by omega) (fd _).symm hF.symm
end

