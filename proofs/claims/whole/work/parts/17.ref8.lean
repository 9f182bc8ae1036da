-- the reference's methods: contracts (part eight): crash, what is told
def needsMany (s : Int → Int) (p : Int) : Int := foldI (fun n k => n + b2 (needsP s p k (s 3))) 0 (s 2) (s 3)
def fndD (s : Int → Int) (p found k : Int) : Int := if needsP s p k (s 3) then k else found
def fnd (s : Int → Int) (p : Int) : Int := foldD (fndD s p) (-5) (s 3) (s 2)
theorem fnd_none {s : Int → Int} {p a : Int} (h : ∀ j, a ≤ j → j < s 3 → ¬ needsP s p j (s 3)) (ha : a ≤ s 3) : foldD (fndD s p) (-5) (s 3) a = -5 := by
  refine foldD_ind (f := fndD s p) (z := -5) (b := s 3) (fun k x => a ≤ k → k ≤ s 3 → x = -5) (fun _ _ => rfl) (fun k x g0 g1 g2 g3 => ?_) a ha (Int.le_refl _) ha
  unfold fndD
  rw [if_neg (h _ g2 (by omega)), g1 (by omega) g0]
theorem foldD_add {α : Type} {f : α → Int → α} {z : α} {a b c : Int} (h1 : c ≤ b) (h2 : b ≤ a) : foldD f z a c = foldD f (foldD f z a b) b c := by
  have := foldD_ind (f := f) (z := foldD f z a b) (b := b) (fun k x => x = foldD f z a k) rfl (fun k x g0 g1 => by rw [g1, foldD_s (by omega)]) c h1
  exact this.symm
theorem fnd_at {s : Int → Int} {p k : Int} (h : ∀ j, s 2 ≤ j → j < k → ¬ needsP s p j (s 3)) (hk : s 2 ≤ k ∧ k < s 3) (hn : needsP s p k (s 3)) : fnd s p = k := by
  unfold fnd
  rw [foldD_add (b := k) hk.1 (by omega)]
  have e : foldD (fndD s p) (-5) (s 3) k = k := by
    have := foldD_s (f := fndD s p) (z := -5) (b := s 3) (k := k + 1) (by omega)
    rw [show k + 1 - 1 = k by omega] at this
    rw [this]
    unfold fndD
    rw [if_pos hn]
  rw [e]
  refine foldD_ind (f := fndD s p) (z := k) (b := k) (fun i x => s 2 ≤ i → x = k) (fun _ => rfl) (fun i x g0 g1 g2 => ?_) (s 2) hk.1 (Int.le_refl _)
  unfold fndD
  rw [if_neg (h _ g2 (by omega)), g1 (by omega)]
def DoubS (s : Int → Int) : Prop := ∀ p, 0 ≤ p → p < 6 → s (158 + p) = 0 ∨ s (158 + p) = 1
theorem Inv.D {B : Int} {s : Int → Int} (h : Inv B s) : DoubS s := fun _ h1 h2 => (h.page h1 h2).2.1
def pageZ (s : Int → Int) (p w : Int) : Int := if w = 0 then timeOf s p else if w = 1 then needsMany s p else if w = 2 then fnd s p else if w = 3 then s (152 + p) else if w = 4 then s (158 + p) else if w = 5 then (if firstDam s p (s 3) = -5 then 0 else 1) else if w = 6 then pict s (8 + 12 * p) else -2
def entryZ (s : Int → Int) (e w : Int) : Int := if w = 0 then ofE s e 0 else if w = 1 then ofE s e 1 else if w = 2 then sizeA s (atE s e) else if w = 3 then timeA s (atE s e) else if w = 4 then b2 (isN s e) else if w = 5 then b2 (e < s 4) else if w = 6 then ofE s e 4 else -2
def bestF (s : Int → Int) (q : Int × Int) (p : Int) : Int × Int := (if q.2 < timeOf s p - pict s (8 + 12 * p) then p else q.1, if q.2 < timeOf s p - pict s (8 + 12 * p) then timeOf s p - pict s (8 + 12 * p) else q.2)
def bestZ (s : Int → Int) : Int := (foldI (bestF s) (-5, 0) 0 6).1
def ofPages (s : Int → Int) (w : Int) : Int := foldI (fun sum p => sum + (if w = 7 then timeOf s p else s (158 + p))) 0 0 6
def countZ (s : Int → Int) (sv ln w : Int) : Int := if w = 0 then s 3 else if w = 1 then s 3 - s 2 else if w = 2 then used s else if w = 3 then s 1 else if w = 4 then s 0 else if w = 5 then neededMany s else if w = 6 then s 3 - s 4 else if w = 7 then ofPages s 7 else if w = 8 then ofPages s 8 else if w = 9 then s 5 else if w = 10 then s 6 else if w = 11 then s 7 else if w = 12 then sv else if w = 13 then ln else -2
theorem timeOf_bb {s : Int → Int} (hN : Num s) (hE : EntS s) {p : Int} : 0 ≤ timeOf s p ∧ timeOf s p ≤ 2705 := by
  obtain ⟨n0, n1, n2, n3, n4⟩ := id hN
  have ht2 := timeOf_b (p := p) hE (z := if start s p (s 3) = -5 then 5 else 0) (by split <;> omega) (k := s 3) (by omega) (Int.le_refl _)
  have ht3 : 0 ≤ timeOf s p ∧ timeOf s p ≤ 5 + 27 * (s 3 - s 2) := ht2
  omega
def asFrF (s : Int → Int) (p f k : Int) : Int := if ofE s k 0 = p ∧ ofE s k 1 = 0 then k else f
def asFr (s : Int → Int) (p e : Int) : Int := foldI (asFrF s p) (-5) (s 2) (e + 1)
def asSt (s : Int → Int) (p e : Int) : Int := if asFr s p e ≠ -5 then asFr s p e else if s 2 < s (152 + p) then s (152 + p) else s 2
def asF (s : Int → Int) (p : Int) (c : Int → Int) (k : Int) : Int → Int := if ofE s k 0 = p then applyF s (atE s k) c else c
def asZ (s cl : Int → Int) (p e : Int) : Int → Int := foldI (asF s p) (cpy s (80 + 12 * p) cl 0 12) (asSt s p e) (e + 1)
section
variable {G : GX} {sz : Nat} {m : Mem} {o : Nat} {s sp pa sh tx cl bf mk : Int → Int} {sv ish ln st : Int}
theorem back_ok {p : Int} (hN : Num s) (hE : EntS s) (hC : CellS s) (hp : 0 ≤ p ∧ p < 6) : Num (backS s cl bf p) ∧ EntS (backS s cl bf p) ∧ CellS (backS s cl bf p) ∧ (∀ j, j < 8 → backS s cl bf p j = s j) := by
  obtain ⟨n0, n1, n2, n3, n4⟩ := id hN
  have lo : ∀ j, j < 8 → backS s cl bf p j = s j := fun j hj => by unfold backS; rw [cpy_out (by omega), backD_n (by omega)]
  have hi : ∀ j, 170 ≤ j → backS s cl bf p j = s j := fun j hj => by unfold backS; rw [cpy_out (by omega), backD_n (by omega)]
  have tn : ∀ j, j ≠ 158 + p → backD s p j = s j := fun j hj => backD_n hj
  have hE2 : EntS (backD s p) := hE.congr (tn 2 (by omega)) (by rw [tn 3 (by omega)]; exact Int.le_refl _) (fun j hj => tn j (by omega))
  have hC2 : CellS (backD s p) := fun i i0 i1 => by rw [tn i (by omega)]; exact hC i i0 i1
  have hb := sndE_b (s := backD s p) (p := p) 200 (s 3) (by rw [tn 2 (by omega)]; omega)
  have eE : backE s p = sndE (backD s p) p 200 (s 3) := rfl
  refine ⟨hN.congr (lo 2 (by decide)) (lo 4 (by decide)) (by rw [lo 3 (by decide)]; omega), hE.congr (lo 2 (by decide)) (by rw [lo 3 (by decide)]; exact Int.le_refl _) hi, fun i i0 i1 => ?_, lo⟩
  unfold backS
  by_cases h : 8 + 12 * p ≤ i ∧ i < 8 + 12 * p + 12
  · rw [cpy_in h]
    exact restQ_b hE2 hC2 hp (by rw [tn 3 (by omega)]; omega) cl bf (k := backE s p) (by omega) (Int.le_refl _) _ (by omega) (by omega)
  · rw [cpy_out (by omega), tn i (by omega)]
    exact hC i i0 i1
theorem ok_crash (hN : Num s) (hE : EntS s) (hC : CellS s) (h7 : 0 ≤ s 7 ∧ s 7 ≤ 30000) (hv : 0 ≤ sv ∧ sv ≤ 4) : Ok G kX6_crash 8 [.inr (some o)] sz (MM m o s sp pa sv sh ish tx ln cl bf mk st) 0 0 (PX m o (s 3 - s 4) sz (crashF s cl bf) (recA pa sv s) (recV sv) sh ish tx ln) := by
  refine Ok.body [some (.inr (some o)), none, none] rfl (Nat.le_of_ble_eq_true rfl) (by decide) ?_
  obtain ⟨n0, n1, n2, n3, n4⟩ := id hN
  have tN : Num (upI s 3 (s 4)) := hN.congr (upI_n (by decide)) (upI_n (by decide)) (by rw [upI_s]; omega)
  have tE : EntS (upI s 3 (s 4)) := hE.congr (upI_n (by decide)) (by rw [upI_s]; exact n2) (fun j hj => upI_n (by omega))
  have t7 : (upI s 3 (s 4)) 7 = s 7 := upI_n (by decide)
  have tC : CellS (upI s 3 (s 4)) := fun i i0 i1 => by rw [upI_n (by omega)]; exact hC i i0 i1
  have loop : ∀ (n : Nat) (k : Int) (q : (Int → Int) × (Int → Int) × (Int → Int)), (6 - k).toNat < n → 0 ≤ k → k ≤ 6 → Num q.1 → EntS q.1 → CellS q.1 → q.1 7 = s 7 → q = foldI crF (upI s 3 (s 4), cl, bf) 0 k → V G kX6_crash (rmM 8 0 0) (QfM G (PX m o (s 3 - s 4) sz (crashF s cl bf) (recA pa sv s) (recV sv) sh ish tx ln) 0 0) 36 [some (.inr (some o)), some (.inl (s 3 - s 4)), some (.inl k)] [] sz (MM m o q.1 sp (recA pa sv s) (recV sv) sh ish tx ln q.2.1 q.2.2 mk st) 0 0 := by
    intro n
    induction n with
    | zero => intro k q h; omega
    | succ n ih =>
      intro k q hn hk1 hk2 qN qE qC q7 hq
      refine V.ild2 aX6_crash_36 ?_
      refine V.bipush aX6_crash_37 (by decide) (by decide) ?_
      refine V.icmp_ge aX6_crash_39 (tgt := 53) (by decide) (fun c39 => ?_) (fun c39 => ?_)
      · refine V.ald0 aX6_crash_53 ?_
        refine M.gf aX6_crash_54 fl_RX6_7 rfl ?_
        refine V.bipush aX6_crash_57 (by decide) (by decide) ?_
        refine V.dup2 aX6_crash_59 ?_
        refine M.lds aX6_crash_60 (by omega) ?_
        refine V.iconst aX6_crash_61 (by decide) ?_
        refine V.iadd aX6_crash_62 (by omega) ?_
        refine M.sts aX6_crash_63 (by omega) ?_
        refine V.ild1 aX6_crash_64 ?_
        refine V.iret aX6_crash_65 rfl (by decide) ?_
        have ek : k = 6 := by omega
        subst ek
        have e : q = crQ s cl bf := hq
        exact PX.of rfl (by rw [e]; rfl) rfl rfl rfl rfl rfl rfl
      · have hb := back_ok (cl := q.2.1) (bf := q.2.2) qN qE qC ⟨hk1, c39⟩
        refine V.ald0 aX6_crash_42 ?_
        refine V.ild2 aX6_crash_43 ?_
        refine call_X6_comesBack aX6_crash_44 gl_RX6_183 (ok_comesBack qN qE qC ⟨hk1, c39⟩) (MM_o) (Nat.le_of_ble_eq_true rfl) (by decide) (goV ?_)
        refine V.inc2 aX6_crash_47 (by omega) ?_
        refine V.goto aX6_crash_50 (tgt := 36) (by decide) ?_
        refine ih (k + 1) (crF q k) (by omega) (by omega) (by omega) hb.1 hb.2.1 hb.2.2.1 ?_ (by rw [foldI_s hk1, ← hq])
        exact (hb.2.2.2 7 (by decide)).trans q7
  refine V.ald0 aX6_crash_0 ?_
  refine V.ald0 aX6_crash_1 ?_
  refine M.gf aX6_crash_2 fl_RX6_7 rfl ?_
  refine call_X6_records aX6_crash_5 gl_RX6_51 (ok_records (fun _ _ => MM_s) (by omega) (by omega)) (MM_o) (Nat.le_of_ble_eq_true rfl) (by decide) (goV ?_)
  refine V.ald0 aX6_crash_8 ?_
  refine M.gf aX6_crash_9 fl_RX6_7 rfl ?_
  refine V.iconst aX6_crash_12 (by decide) ?_
  refine M.lds aX6_crash_13 (by omega) ?_
  refine V.ald0 aX6_crash_14 ?_
  refine M.gf aX6_crash_15 fl_RX6_7 rfl ?_
  refine V.iconst aX6_crash_18 (by decide) ?_
  refine M.lds aX6_crash_19 (by omega) ?_
  refine V.isub aX6_crash_20 (by omega) ?_
  refine V.ist1 aX6_crash_21 ?_
  refine V.ald0 aX6_crash_22 ?_
  refine M.gf aX6_crash_23 fl_RX6_7 rfl ?_
  refine V.iconst aX6_crash_26 (by decide) ?_
  refine V.ald0 aX6_crash_27 ?_
  refine M.gf aX6_crash_28 fl_RX6_7 rfl ?_
  refine V.iconst aX6_crash_31 (by decide) ?_
  refine M.lds aX6_crash_32 (by omega) ?_
  refine M.sts aX6_crash_33 (by omega) ?_
  refine V.iconst aX6_crash_34 (by decide) ?_
  refine V.ist2 aX6_crash_35 ?_
  exact loop _ 0 (upI s 3 (s 4), cl, bf) (Nat.lt_succ_self _) (by decide) (by decide) tN tE tC t7 (foldI_0 (Int.le_refl _)).symm
theorem ok_cell1 {p c : Int} (h : ¬ (0 ≤ p ∧ p ≤ 5 ∧ 0 ≤ c ∧ c ≤ 11)) : Ok G kX6_cell 8 [.inr (some o), .inl p, .inl c] sz (MM m o s sp pa sv sh ish tx ln cl bf mk st) 0 0 (PX m o (-1) sz s pa sv sh ish tx ln) := by
  refine Ok.body [some (.inr (some o)), some (.inl p), some (.inl c)] rfl (Nat.le_of_ble_eq_true rfl) (by decide) ?_
  refine V.ild1 aX6_cell_0 ?_
  refine call_X6_isPage aX6_cell_1 gl_RX6_125 (ok_isPage) (Nat.le_of_ble_eq_true rfl) (by decide) (goI ?_)
  refine V.ifb_eq aX6_cell_4 (tgt := 31) (by decide) (fun c4 => ?_) (fun c4 => ?_)
  · refine V.iconst aX6_cell_31 (by decide) ?_
    refine V.iret aX6_cell_32 rfl (by decide) ?_
    exact PX.of rfl rfl rfl rfl rfl rfl rfl rfl
  · refine V.ild2 aX6_cell_7 ?_
    refine call_X6_isCell aX6_cell_8 gl_RX6_128 (ok_isCell) (Nat.le_of_ble_eq_true rfl) (by decide) (goI ?_)
    refine V.ifb_eq aX6_cell_11 (tgt := 31) (by decide) (fun c11 => ?_) (fun c11 => ?_)
    · refine V.iconst aX6_cell_31 (by decide) ?_
      refine V.iret aX6_cell_32 rfl (by decide) ?_
      exact PX.of rfl rfl rfl rfl rfl rfl rfl rfl
    · omega
theorem ok_cell2 {p c : Int} (h : 0 ≤ p ∧ p ≤ 5 ∧ 0 ≤ c ∧ c ≤ 11) : Ok G kX6_cell 8 [.inr (some o), .inl p, .inl c] sz (MM m o s sp pa sv sh ish tx ln cl bf mk st) 0 0 (PX m o (s (8 + 12 * p + c)) sz s pa sv sh ish tx ln) := by
  refine Ok.body [some (.inr (some o)), some (.inl p), some (.inl c)] rfl (Nat.le_of_ble_eq_true rfl) (by decide) ?_
  refine V.ild1 aX6_cell_0 ?_
  refine call_X6_isPage aX6_cell_1 gl_RX6_125 (ok_isPage) (Nat.le_of_ble_eq_true rfl) (by decide) (goI ?_)
  refine V.ifb_eq aX6_cell_4 (tgt := 31) (by decide) (fun c4 => ?_) (fun c4 => ?_)
  · omega
  · refine V.ild2 aX6_cell_7 ?_
    refine call_X6_isCell aX6_cell_8 gl_RX6_128 (ok_isCell) (Nat.le_of_ble_eq_true rfl) (by decide) (goI ?_)
    refine V.ifb_eq aX6_cell_11 (tgt := 31) (by decide) (fun c11 => ?_) (fun c11 => ?_)
    · omega
    · refine V.ald0 aX6_cell_14 ?_
      refine M.gf aX6_cell_15 fl_RX6_7 rfl ?_
      refine V.bipush aX6_cell_18 (by decide) (by decide) ?_
      refine V.bipush aX6_cell_20 (by decide) (by decide) ?_
      refine V.ild1 aX6_cell_22 ?_
      refine V.imul aX6_cell_23 (by omega) ?_
      refine V.iadd aX6_cell_24 (by omega) ?_
      refine V.ild2 aX6_cell_25 ?_
      refine V.iadd aX6_cell_26 (by omega) ?_
      refine M.lds aX6_cell_27 (by omega) ?_
      refine V.goto aX6_cell_28 (tgt := 32) (by decide) ?_
      refine V.iret aX6_cell_32 rfl (by decide) ?_
      exact PX.of rfl rfl rfl rfl rfl rfl rfl rfl
theorem ok_stored1 {p c : Int} (h : ¬ (0 ≤ p ∧ p ≤ 5 ∧ 0 ≤ c ∧ c ≤ 11)) : Ok G kX6_stored 8 [.inr (some o), .inl p, .inl c] sz (MM m o s sp pa sv sh ish tx ln cl bf mk st) 0 0 (PX m o (-1) sz s pa sv sh ish tx ln) := by
  refine Ok.body [some (.inr (some o)), some (.inl p), some (.inl c)] rfl (Nat.le_of_ble_eq_true rfl) (by decide) ?_
  refine V.ild1 aX6_stored_0 ?_
  refine call_X6_isPage aX6_stored_1 gl_RX6_125 (ok_isPage) (Nat.le_of_ble_eq_true rfl) (by decide) (goI ?_)
  refine V.ifb_eq aX6_stored_4 (tgt := 31) (by decide) (fun c4 => ?_) (fun c4 => ?_)
  · refine V.iconst aX6_stored_31 (by decide) ?_
    refine V.iret aX6_stored_32 rfl (by decide) ?_
    exact PX.of rfl rfl rfl rfl rfl rfl rfl rfl
  · refine V.ild2 aX6_stored_7 ?_
    refine call_X6_isCell aX6_stored_8 gl_RX6_128 (ok_isCell) (Nat.le_of_ble_eq_true rfl) (by decide) (goI ?_)
    refine V.ifb_eq aX6_stored_11 (tgt := 31) (by decide) (fun c11 => ?_) (fun c11 => ?_)
    · refine V.iconst aX6_stored_31 (by decide) ?_
      refine V.iret aX6_stored_32 rfl (by decide) ?_
      exact PX.of rfl rfl rfl rfl rfl rfl rfl rfl
    · omega
theorem ok_stored2 {p c : Int} (h : 0 ≤ p ∧ p ≤ 5 ∧ 0 ≤ c ∧ c ≤ 11) : Ok G kX6_stored 8 [.inr (some o), .inl p, .inl c] sz (MM m o s sp pa sv sh ish tx ln cl bf mk st) 0 0 (PX m o (s (80 + 12 * p + c)) sz s pa sv sh ish tx ln) := by
  refine Ok.body [some (.inr (some o)), some (.inl p), some (.inl c)] rfl (Nat.le_of_ble_eq_true rfl) (by decide) ?_
  refine V.ild1 aX6_stored_0 ?_
  refine call_X6_isPage aX6_stored_1 gl_RX6_125 (ok_isPage) (Nat.le_of_ble_eq_true rfl) (by decide) (goI ?_)
  refine V.ifb_eq aX6_stored_4 (tgt := 31) (by decide) (fun c4 => ?_) (fun c4 => ?_)
  · omega
  · refine V.ild2 aX6_stored_7 ?_
    refine call_X6_isCell aX6_stored_8 gl_RX6_128 (ok_isCell) (Nat.le_of_ble_eq_true rfl) (by decide) (goI ?_)
    refine V.ifb_eq aX6_stored_11 (tgt := 31) (by decide) (fun c11 => ?_) (fun c11 => ?_)
    · omega
    · refine V.ald0 aX6_stored_14 ?_
      refine M.gf aX6_stored_15 fl_RX6_7 rfl ?_
      refine V.bipush aX6_stored_18 (by decide) (by decide) ?_
      refine V.bipush aX6_stored_20 (by decide) (by decide) ?_
      refine V.ild1 aX6_stored_22 ?_
      refine V.imul aX6_stored_23 (by omega) ?_
      refine V.iadd aX6_stored_24 (by omega) ?_
      refine V.ild2 aX6_stored_25 ?_
      refine V.iadd aX6_stored_26 (by omega) ?_
      refine M.lds aX6_stored_27 (by omega) ?_
      refine V.goto aX6_stored_28 (tgt := 32) (by decide) ?_
      refine V.iret aX6_stored_32 rfl (by decide) ?_
      exact PX.of rfl rfl rfl rfl rfl rfl rfl rfl
theorem ok_needsMany {p : Int} (hN : Num s) (hp : 0 ≤ p ∧ p < 6) : Ok G kX6_needsMany 5 [.inr (some o), .inl p] sz (MM m o s sp pa sv sh ish tx ln cl bf mk st) 0 0 (PI (needsMany s p) sz (MM m o s sp pa sv sh ish tx ln cl bf mk st)) := by
  refine Ok.body [some (.inr (some o)), some (.inl p), none, none] rfl (Nat.le_of_ble_eq_true rfl) (by decide) ?_
  obtain ⟨n0, n1, n2, n3, n4⟩ := id hN
  have loop : ∀ (n : Nat) (k r : Int), (s 3 - k).toNat < n → s 2 ≤ k → k ≤ s 3 → (0 ≤ r ∧ r ≤ k - s 2) → r = foldI (fun n k => n + b2 (needsP s p k (s 3))) 0 (s 2) k → V G kX6_needsMany (rmM 5 0 0) (QfM G (PI (needsMany s p) sz (MM m o s sp pa sv sh ish tx ln cl bf mk st)) 0 0) 9 [some (.inr (some o)), some (.inl p), some (.inl r), some (.inl k)] [] sz (MM m o s sp pa sv sh ish tx ln cl bf mk st) 0 0 := by
    intro n
    induction n with
    | zero => intro k r h; omega
    | succ n ih =>
      intro k r hn hk1 hk2 hb hr
      refine V.ild3 aX6_needsMany_9 ?_
      refine V.ald0 aX6_needsMany_10 ?_
      refine M.gf aX6_needsMany_11 fl_RX6_7 rfl ?_
      refine V.iconst aX6_needsMany_14 (by decide) ?_
      refine M.lds aX6_needsMany_15 (by omega) ?_
      refine V.icmp_ge aX6_needsMany_16 (tgt := 48) (by decide) (fun c16 => ?_) (fun c16 => ?_)
      · refine V.ild2 aX6_needsMany_48 ?_
        refine V.iret aX6_needsMany_49 rfl (by decide) ?_
        exact PI.of (by rw [hr, show k = s 3 by omega]; rfl)
      · refine V.ild2 aX6_needsMany_19 ?_
        refine V.ald0 aX6_needsMany_20 ?_
        refine V.ild1 aX6_needsMany_21 ?_
        refine V.ild3 aX6_needsMany_22 ?_
        refine V.ald0 aX6_needsMany_23 ?_
        refine M.gf aX6_needsMany_24 fl_RX6_7 rfl ?_
        refine V.iconst aX6_needsMany_27 (by decide) ?_
        refine M.lds aX6_needsMany_28 (by omega) ?_
        refine call_X6_needs aX6_needsMany_29 gl_RX6_73 (ok_needs hN hp (by omega) (by omega) (by omega)) (MM_o) (Nat.le_of_ble_eq_true rfl) (by decide) (goI ?_)
        refine V.ifb_eq aX6_needsMany_32 (tgt := 39) (by decide) (fun c32 => ?_) (fun c32 => ?_)
        · refine V.iconst aX6_needsMany_39 (by decide) ?_
          refine V.iadd aX6_needsMany_40 (by omega) ?_
          refine V.ist2 aX6_needsMany_41 ?_
          refine V.inc3 aX6_needsMany_42 (by omega) ?_
          refine V.goto aX6_needsMany_45 (tgt := 9) (by decide) ?_
          refine ih (k + 1) _ (by omega) (by omega) (by omega) (by omega) ?_
          rw [foldI_s (by omega), ← hr]
          unfold b2
          split <;> omega
        · refine V.iconst aX6_needsMany_35 (by decide) ?_
          refine V.goto aX6_needsMany_36 (tgt := 40) (by decide) ?_
          refine V.iadd aX6_needsMany_40 (by omega) ?_
          refine V.ist2 aX6_needsMany_41 ?_
          refine V.inc3 aX6_needsMany_42 (by omega) ?_
          refine V.goto aX6_needsMany_45 (tgt := 9) (by decide) ?_
          refine ih (k + 1) _ (by omega) (by omega) (by omega) (by omega) ?_
          rw [foldI_s (by omega), ← hr]
          unfold b2
          split <;> omega
  refine V.iconst aX6_needsMany_0 (by decide) ?_
  refine V.ist2 aX6_needsMany_1 ?_
  refine V.ald0 aX6_needsMany_2 ?_
  refine M.gf aX6_needsMany_3 fl_RX6_7 rfl ?_
  refine V.iconst aX6_needsMany_6 (by decide) ?_
  refine M.lds aX6_needsMany_7 (by omega) ?_
  refine V.ist3 aX6_needsMany_8 ?_
  exact loop _ _ _ (Nat.lt_succ_self _) (Int.le_refl _) (by omega) (by omega) (foldI_0 (Int.le_refl _)).symm
theorem ok_firstNeeded {p : Int} (hN : Num s) (hp : 0 ≤ p ∧ p < 6) : Ok G kX6_firstNeeded 5 [.inr (some o), .inl p] sz (MM m o s sp pa sv sh ish tx ln cl bf mk st) 0 0 (PI (fnd s p) sz (MM m o s sp pa sv sh ish tx ln cl bf mk st)) := by
  refine Ok.body [some (.inr (some o)), some (.inl p), none] rfl (Nat.le_of_ble_eq_true rfl) (by decide) ?_
  obtain ⟨n0, n1, n2, n3, n4⟩ := id hN
  have loop : ∀ (n : Nat) (k : Int), (s 3 - k).toNat < n → s 2 ≤ k → k ≤ s 3 → (∀ j, s 2 ≤ j → j < k → ¬ needsP s p j (s 3)) → V G kX6_firstNeeded (rmM 5 0 0) (QfM G (PI (fnd s p) sz (MM m o s sp pa sv sh ish tx ln cl bf mk st)) 0 0) 7 [some (.inr (some o)), some (.inl p), some (.inl k)] [] sz (MM m o s sp pa sv sh ish tx ln cl bf mk st) 0 0 := by
    intro n
    induction n with
    | zero => intro k h; omega
    | succ n ih =>
      intro k hn hk1 hk2 hno
      refine V.ild2 aX6_firstNeeded_7 ?_
      refine V.ald0 aX6_firstNeeded_8 ?_
      refine M.gf aX6_firstNeeded_9 fl_RX6_7 rfl ?_
      refine V.iconst aX6_firstNeeded_12 (by decide) ?_
      refine M.lds aX6_firstNeeded_13 (by omega) ?_
      refine V.icmp_ge aX6_firstNeeded_14 (tgt := 40) (by decide) (fun c14 => ?_) (fun c14 => ?_)
      · refine V.bipush aX6_firstNeeded_40 (by decide) (by decide) ?_
        refine V.iret aX6_firstNeeded_42 rfl (by decide) ?_
        exact PI.of (fnd_none (fun j j0 j1 => hno j j0 (by omega)) (by omega)).symm
      · refine V.ald0 aX6_firstNeeded_17 ?_
        refine V.ild1 aX6_firstNeeded_18 ?_
        refine V.ild2 aX6_firstNeeded_19 ?_
        refine V.ald0 aX6_firstNeeded_20 ?_
        refine M.gf aX6_firstNeeded_21 fl_RX6_7 rfl ?_
        refine V.iconst aX6_firstNeeded_24 (by decide) ?_
        refine M.lds aX6_firstNeeded_25 (by omega) ?_
        refine call_X6_needs aX6_firstNeeded_26 gl_RX6_73 (ok_needs hN hp (by omega) (by omega) (by omega)) (MM_o) (Nat.le_of_ble_eq_true rfl) (by decide) (goI ?_)
        refine V.ifb_eq aX6_firstNeeded_29 (tgt := 34) (by decide) (fun c29 => ?_) (fun c29 => ?_)
        · refine V.inc2 aX6_firstNeeded_34 (by omega) ?_
          refine V.goto aX6_firstNeeded_37 (tgt := 7) (by decide) ?_
          refine ih (k + 1) (by omega) (by omega) (by omega) (fun j j0 j1 => ?_)
          by_cases e : j = k
          · subst e; exact c29
          · exact hno j j0 (by omega)
        · refine V.ild2 aX6_firstNeeded_32 ?_
          refine V.iret aX6_firstNeeded_33 rfl (by decide) ?_
          exact PI.of (fnd_at hno ⟨hk1, c14⟩ c29).symm
  refine V.ald0 aX6_firstNeeded_0 ?_
  refine M.gf aX6_firstNeeded_1 fl_RX6_7 rfl ?_
  refine V.iconst aX6_firstNeeded_4 (by decide) ?_
  refine M.lds aX6_firstNeeded_5 (by omega) ?_
  refine V.ist2 aX6_firstNeeded_6 ?_
  exact loop _ _ (Nat.lt_succ_self _) (Int.le_refl _) (by omega) (fun j j0 j1 => by omega)
theorem ok_page1 {p w : Int} (h : ¬ (0 ≤ p ∧ p ≤ 5)) : Ok G kX6_page 8 [.inr (some o), .inl p, .inl w] sz (MM m o s sp pa sv sh ish tx ln cl bf mk st) 0 0 (PX m o (-1) sz s pa sv sh ish tx ln) := by
  refine Ok.body [some (.inr (some o)), some (.inl p), some (.inl w)] rfl (Nat.le_of_ble_eq_true rfl) (by decide) ?_
  refine V.ild1 aX6_page_0 ?_
  refine call_X6_isPage aX6_page_1 gl_RX6_125 (ok_isPage) (Nat.le_of_ble_eq_true rfl) (by decide) (goI ?_)
  refine V.ifb_ne aX6_page_4 (tgt := 9) (by decide) (fun c4 => ?_) (fun c4 => ?_)
  · omega
  · refine V.iconst aX6_page_7 (by decide) ?_
    refine V.iret aX6_page_8 rfl (by decide) ?_
    exact PX.of rfl rfl rfl rfl rfl rfl rfl rfl
theorem ok_page2 {p w : Int} (hN : Num s) (hE : EntS s) (h : 0 ≤ p ∧ p ≤ 5) : Ok G kX6_page 8 [.inr (some o), .inl p, .inl w] sz (MM m o s sp pa sv sh ish tx ln cl bf mk st) 0 0 (PX m o (pageZ s p w) sz s pa sv sh ish tx ln) := by
  refine Ok.body [some (.inr (some o)), some (.inl p), some (.inl w)] rfl (Nat.le_of_ble_eq_true rfl) (by decide) ?_
  obtain ⟨n0, n1, n2, n3, n4⟩ := id hN
  have hp : 0 ≤ p ∧ p < 6 := by omega
  refine V.ild1 aX6_page_0 ?_
  refine call_X6_isPage aX6_page_1 gl_RX6_125 (ok_isPage) (Nat.le_of_ble_eq_true rfl) (by decide) (goI ?_)
  refine V.ifb_ne aX6_page_4 (tgt := 9) (by decide) (fun c4 => ?_) (fun c4 => ?_)
  · refine V.ild2 aX6_page_9 ?_
    refine V.tsw7 aX6_page_10 (t0 := 52) (t1 := 58) (t2 := 64) (t3 := 70) (t4 := 81) (t5 := 92) (t6 := 114) (t7 := 129) (by decide) (by decide) (by decide) (by decide) (by decide) (by decide) (by decide) (by decide) (fun c10 => ?_) (fun c10 => ?_) (fun c10 => ?_) (fun c10 => ?_) (fun c10 => ?_) (fun c10 => ?_) (fun c10 => ?_) (fun c10 => ?_)
    · refine V.ald0 aX6_page_52 ?_
      refine V.ild1 aX6_page_53 ?_
      refine call_X6_timeOf aX6_page_54 gl_RX6_95 (ok_timeOf hN hE hp) (MM_o) (Nat.le_of_ble_eq_true rfl) (by decide) (goI ?_)
      refine V.iret aX6_page_57 rfl (by decide) ?_
      exact PX.of (by unfold pageZ; first | (simp [c10]; done) | (simp [c10]; omega)) rfl rfl rfl rfl rfl rfl rfl
    · refine V.ald0 aX6_page_58 ?_
      refine V.ild1 aX6_page_59 ?_
      refine call_X6_needsMany aX6_page_60 gl_RX6_186 (ok_needsMany hN hp) (MM_o) (Nat.le_of_ble_eq_true rfl) (by decide) (goI ?_)
      refine V.iret aX6_page_63 rfl (by decide) ?_
      exact PX.of (by unfold pageZ; first | (simp [c10]; done) | (simp [c10]; omega)) rfl rfl rfl rfl rfl rfl rfl
    · refine V.ald0 aX6_page_64 ?_
      refine V.ild1 aX6_page_65 ?_
      refine call_X6_firstNeeded aX6_page_66 gl_RX6_189 (ok_firstNeeded hN hp) (MM_o) (Nat.le_of_ble_eq_true rfl) (by decide) (goI ?_)
      refine V.iret aX6_page_69 rfl (by decide) ?_
      exact PX.of (by unfold pageZ; first | (simp [c10]; done) | (simp [c10]; omega)) rfl rfl rfl rfl rfl rfl rfl
    · refine V.ald0 aX6_page_70 ?_
      refine M.gf aX6_page_71 fl_RX6_7 rfl ?_
      refine V.sipush aX6_page_74 (by decide) (by decide) ?_
      refine V.ild1 aX6_page_77 ?_
      refine V.iadd aX6_page_78 (by omega) ?_
      refine M.lds aX6_page_79 (by omega) ?_
      refine V.iret aX6_page_80 rfl (by decide) ?_
      exact PX.of (by unfold pageZ; first | (simp [c10]; done) | (simp [c10]; omega)) rfl rfl rfl rfl rfl rfl rfl
    · refine V.ald0 aX6_page_81 ?_
      refine M.gf aX6_page_82 fl_RX6_7 rfl ?_
      refine V.sipush aX6_page_85 (by decide) (by decide) ?_
      refine V.ild1 aX6_page_88 ?_
      refine V.iadd aX6_page_89 (by omega) ?_
      refine M.lds aX6_page_90 (by omega) ?_
      refine V.iret aX6_page_91 rfl (by decide) ?_
      exact PX.of (by unfold pageZ; first | (simp [c10]; done) | (simp [c10]; omega)) rfl rfl rfl rfl rfl rfl rfl
    · refine V.ald0 aX6_page_92 ?_
      refine V.ild1 aX6_page_93 ?_
      refine V.ald0 aX6_page_94 ?_
      refine M.gf aX6_page_95 fl_RX6_7 rfl ?_
      refine V.iconst aX6_page_98 (by decide) ?_
      refine M.lds aX6_page_99 (by omega) ?_
      refine call_X6_firstDamaged aX6_page_100 gl_RX6_177 (ok_firstDamaged hN hp (by omega) (by omega)) (MM_o) (Nat.le_of_ble_eq_true rfl) (by decide) (goI ?_)
      refine V.bipush aX6_page_103 (by decide) (by decide) ?_
      refine V.icmp_ne aX6_page_105 (tgt := 112) (by decide) (fun c105 => ?_) (fun c105 => ?_)
      · refine V.iconst aX6_page_112 (by decide) ?_
        refine V.iret aX6_page_113 rfl (by decide) ?_
        exact PX.of (by unfold pageZ; simp [c10, c105]) rfl rfl rfl rfl rfl rfl rfl
      · refine V.iconst aX6_page_108 (by decide) ?_
        refine V.goto aX6_page_109 (tgt := 113) (by decide) ?_
        refine V.iret aX6_page_113 rfl (by decide) ?_
        exact PX.of (by unfold pageZ; simp [c10, c105]) rfl rfl rfl rfl rfl rfl rfl
    · refine V.ald0 aX6_page_114 ?_
      refine M.gf aX6_page_115 fl_RX6_7 rfl ?_
      refine V.bipush aX6_page_118 (by decide) (by decide) ?_
      refine V.bipush aX6_page_120 (by decide) (by decide) ?_
      refine V.ild1 aX6_page_122 ?_
      refine V.imul aX6_page_123 (by omega) ?_
      refine V.iadd aX6_page_124 (by omega) ?_
      refine call_X6_pictured aX6_page_125 gl_RX6_59 (ok_pictured MM_s (by omega) (by omega) (by omega)) (Nat.le_of_ble_eq_true rfl) (by decide) (goI ?_)
      refine V.iret aX6_page_128 rfl (by decide) ?_
      exact PX.of (by unfold pageZ; first | (simp [c10]; done) | (simp [c10]; omega)) rfl rfl rfl rfl rfl rfl rfl
    · refine V.bipush aX6_page_129 (by decide) (by decide) ?_
      refine V.iret aX6_page_131 rfl (by decide) ?_
      exact PX.of (by unfold pageZ; rw [if_neg (by omega), if_neg (by omega), if_neg (by omega), if_neg (by omega), if_neg (by omega), if_neg (by omega), if_neg (by omega)]) rfl rfl rfl rfl rfl rfl rfl
  · omega
theorem ok_entry1 {e w : Int} (hN : Num s) (h : ¬ (s 2 ≤ e ∧ e ≤ s 3 - 1)) : Ok G kX6_entry 8 [.inr (some o), .inl e, .inl w] sz (MM m o s sp pa sv sh ish tx ln cl bf mk st) 0 0 (PX m o (-1) sz s pa sv sh ish tx ln) := by
  refine Ok.body [some (.inr (some o)), some (.inl e), some (.inl w)] rfl (Nat.le_of_ble_eq_true rfl) (by decide) ?_
  obtain ⟨n0, n1, n2, n3, n4⟩ := id hN
  refine V.ald0 aX6_entry_0 ?_
  refine V.ild1 aX6_entry_1 ?_
  refine call_X6_isHeld aX6_entry_2 gl_RX6_174 (ok_isHeld (by omega) (by omega) (by omega)) (MM_o) (Nat.le_of_ble_eq_true rfl) (by decide) (goI ?_)
  refine V.ifb_ne aX6_entry_5 (tgt := 10) (by decide) (fun c5 => ?_) (fun c5 => ?_)
  · omega
  · refine V.iconst aX6_entry_8 (by decide) ?_
    refine V.iret aX6_entry_9 rfl (by decide) ?_
    exact PX.of rfl rfl rfl rfl rfl rfl rfl rfl
theorem ok_entry2 {e w : Int} (hN : Num s) (hE : EntS s) (h : s 2 ≤ e ∧ e ≤ s 3 - 1) : Ok G kX6_entry 8 [.inr (some o), .inl e, .inl w] sz (MM m o s sp pa sv sh ish tx ln cl bf mk st) 0 0 (PX m o (entryZ s e w) sz s pa sv sh ish tx ln) := by
  refine Ok.body [some (.inr (some o)), some (.inl e), some (.inl w)] rfl (Nat.le_of_ble_eq_true rfl) (by decide) ?_
  obtain ⟨n0, n1, n2, n3, n4⟩ := id hN
  have q3 := hE.m3 (k := e) (by omega) (by omega)
  refine V.ald0 aX6_entry_0 ?_
  refine V.ild1 aX6_entry_1 ?_
  refine call_X6_isHeld aX6_entry_2 gl_RX6_174 (ok_isHeld (by omega) (by omega) (by omega)) (MM_o) (Nat.le_of_ble_eq_true rfl) (by decide) (goI ?_)
  refine V.ifb_ne aX6_entry_5 (tgt := 10) (by decide) (fun c5 => ?_) (fun c5 => ?_)
  · refine V.ild2 aX6_entry_10 ?_
    refine V.tsw7 aX6_entry_11 (t0 := 52) (t1 := 59) (t2 := 66) (t3 := 79) (t4 := 92) (t5 := 106) (t6 := 122) (t7 := 129) (by decide) (by decide) (by decide) (by decide) (by decide) (by decide) (by decide) (by decide) (fun c11 => ?_) (fun c11 => ?_) (fun c11 => ?_) (fun c11 => ?_) (fun c11 => ?_) (fun c11 => ?_) (fun c11 => ?_) (fun c11 => ?_)
    · refine V.ald0 aX6_entry_52 ?_
      refine V.ild1 aX6_entry_53 ?_
      refine V.iconst aX6_entry_54 (by decide) ?_
      refine call_X6_of aX6_entry_55 gl_RX6_66 (ok_of (by omega) (by omega) (by omega) (by omega) (by omega)) (MM_o) (Nat.le_of_ble_eq_true rfl) (by decide) (goI ?_)
      refine V.iret aX6_entry_58 rfl (by decide) ?_
      exact PX.of (by unfold entryZ; simp [c11]) rfl rfl rfl rfl rfl rfl rfl
    · refine V.ald0 aX6_entry_59 ?_
      refine V.ild1 aX6_entry_60 ?_
      refine V.iconst aX6_entry_61 (by decide) ?_
      refine call_X6_of aX6_entry_62 gl_RX6_66 (ok_of (by omega) (by omega) (by omega) (by omega) (by omega)) (MM_o) (Nat.le_of_ble_eq_true rfl) (by decide) (goI ?_)
      refine V.iret aX6_entry_65 rfl (by decide) ?_
      exact PX.of (by unfold entryZ; simp [c11]) rfl rfl rfl rfl rfl rfl rfl
    · refine V.ald0 aX6_entry_66 ?_
      refine M.gf aX6_entry_67 fl_RX6_7 rfl ?_
      refine V.ald0 aX6_entry_70 ?_
      refine V.ild1 aX6_entry_71 ?_
      refine call_X6_at aX6_entry_72 gl_RX6_55 (ok_at (by omega) (by omega) (by omega)) (MM_o) (Nat.le_of_ble_eq_true rfl) (by decide) (goI ?_)
      refine call_X6_sizeAt aX6_entry_75 gl_RX6_63 (ok_sizeAt MM_s (by omega) (by omega) (by omega) (by omega) (by omega)) (Nat.le_of_ble_eq_true rfl) (by decide) (goI ?_)
      refine V.iret aX6_entry_78 rfl (by decide) ?_
      exact PX.of (by unfold entryZ; simp [c11]) rfl rfl rfl rfl rfl rfl rfl
    · refine V.ald0 aX6_entry_79 ?_
      refine M.gf aX6_entry_80 fl_RX6_7 rfl ?_
      refine V.ald0 aX6_entry_83 ?_
      refine V.ild1 aX6_entry_84 ?_
      refine call_X6_at aX6_entry_85 gl_RX6_55 (ok_at (by omega) (by omega) (by omega)) (MM_o) (Nat.le_of_ble_eq_true rfl) (by decide) (goI ?_)
      refine call_X6_timeAt aX6_entry_88 gl_RX6_80 (ok_timeAt MM_s (by omega) (by omega) (by omega) (hE e (by omega) (by omega))) (Nat.le_of_ble_eq_true rfl) (by decide) (goI ?_)
      refine V.iret aX6_entry_91 rfl (by decide) ?_
      exact PX.of (by unfold entryZ; simp [c11]) rfl rfl rfl rfl rfl rfl rfl
    · refine V.ald0 aX6_entry_92 ?_
      refine V.ild1 aX6_entry_93 ?_
      refine call_X6_isNeeded aX6_entry_94 gl_RX6_76 (ok_isNeeded hN hE (by omega) (by omega)) (MM_o) (Nat.le_of_ble_eq_true rfl) (by decide) (goI ?_)
      refine V.ifb_eq aX6_entry_97 (tgt := 104) (by decide) (fun c97 => ?_) (fun c97 => ?_)
      · refine V.iconst aX6_entry_104 (by decide) ?_
        refine V.iret aX6_entry_105 rfl (by decide) ?_
        exact PX.of (by rw [c11]; show _ = b2 (isN s e); first | rw [b2_t c97] | rw [b2_f c97]) rfl rfl rfl rfl rfl rfl rfl
      · refine V.iconst aX6_entry_100 (by decide) ?_
        refine V.goto aX6_entry_101 (tgt := 105) (by decide) ?_
        refine V.iret aX6_entry_105 rfl (by decide) ?_
        exact PX.of (by rw [c11]; show _ = b2 (isN s e); first | rw [b2_t c97] | rw [b2_f c97]) rfl rfl rfl rfl rfl rfl rfl
    · refine V.ild1 aX6_entry_106 ?_
      refine V.ald0 aX6_entry_107 ?_
      refine M.gf aX6_entry_108 fl_RX6_7 rfl ?_
      refine V.iconst aX6_entry_111 (by decide) ?_
      refine M.lds aX6_entry_112 (by omega) ?_
      refine V.icmp_ge aX6_entry_113 (tgt := 120) (by decide) (fun c113 => ?_) (fun c113 => ?_)
      · refine V.iconst aX6_entry_120 (by decide) ?_
        refine V.iret aX6_entry_121 rfl (by decide) ?_
        exact PX.of (by rw [c11]; show _ = b2 (e < s 4); unfold b2; split <;> omega) rfl rfl rfl rfl rfl rfl rfl
      · refine V.iconst aX6_entry_116 (by decide) ?_
        refine V.goto aX6_entry_117 (tgt := 121) (by decide) ?_
        refine V.iret aX6_entry_121 rfl (by decide) ?_
        exact PX.of (by rw [c11]; show _ = b2 (e < s 4); unfold b2; split <;> omega) rfl rfl rfl rfl rfl rfl rfl
    · refine V.ald0 aX6_entry_122 ?_
      refine V.ild1 aX6_entry_123 ?_
      refine V.iconst aX6_entry_124 (by decide) ?_
      refine call_X6_of aX6_entry_125 gl_RX6_66 (ok_of (by omega) (by omega) (by omega) (by omega) (by omega)) (MM_o) (Nat.le_of_ble_eq_true rfl) (by decide) (goI ?_)
      refine V.iret aX6_entry_128 rfl (by decide) ?_
      exact PX.of (by unfold entryZ; simp [c11]) rfl rfl rfl rfl rfl rfl rfl
    · refine V.bipush aX6_entry_129 (by decide) (by decide) ?_
      refine V.iret aX6_entry_131 rfl (by decide) ?_
      exact PX.of (by unfold entryZ; rw [if_neg (by omega), if_neg (by omega), if_neg (by omega), if_neg (by omega), if_neg (by omega), if_neg (by omega), if_neg (by omega)]) rfl rfl rfl rfl rfl rfl rfl
  · omega
theorem ok_wouldLog1 {p v : Int} (h : ¬ (0 ≤ p ∧ p ≤ 5)) : Ok G kX6_wouldLog 8 [.inr (some o), .inl p, .inl v] sz (MM m o s sp pa sv sh ish tx ln cl bf mk st) 0 0 (PX m o (-1) sz s pa sv sh ish tx ln) := by
  refine Ok.body [some (.inr (some o)), some (.inl p), some (.inl v)] rfl (Nat.le_of_ble_eq_true rfl) (by decide) ?_
  refine V.ild1 aX6_wouldLog_0 ?_
  refine call_X6_isPage aX6_wouldLog_1 gl_RX6_125 (ok_isPage) (Nat.le_of_ble_eq_true rfl) (by decide) (goI ?_)
  refine V.ifb_ne aX6_wouldLog_4 (tgt := 9) (by decide) (fun c4 => ?_) (fun c4 => ?_)
  · omega
  · refine V.iconst aX6_wouldLog_7 (by decide) ?_
    refine V.iret aX6_wouldLog_8 rfl (by decide) ?_
    exact PX.of rfl rfl rfl rfl rfl rfl rfl rfl
theorem ok_wouldLog2 {p v : Int} (h : 0 ≤ p ∧ p ≤ 5) (h2 : ¬ (0 ≤ v ∧ v ≤ 9)) : Ok G kX6_wouldLog 8 [.inr (some o), .inl p, .inl v] sz (MM m o s sp pa sv sh ish tx ln cl bf mk st) 0 0 (PX m o (-2) sz s pa sv sh ish tx ln) := by
  refine Ok.body [some (.inr (some o)), some (.inl p), some (.inl v)] rfl (Nat.le_of_ble_eq_true rfl) (by decide) ?_
  refine V.ild1 aX6_wouldLog_0 ?_
  refine call_X6_isPage aX6_wouldLog_1 gl_RX6_125 (ok_isPage) (Nat.le_of_ble_eq_true rfl) (by decide) (goI ?_)
  refine V.ifb_ne aX6_wouldLog_4 (tgt := 9) (by decide) (fun c4 => ?_) (fun c4 => ?_)
  · refine V.ild2 aX6_wouldLog_9 ?_
    refine V.iconst aX6_wouldLog_10 (by decide) ?_
    refine V.bipush aX6_wouldLog_11 (by decide) (by decide) ?_
    refine call_X6_in aX6_wouldLog_13 gl_RX6_35 (ok_in) (Nat.le_of_ble_eq_true rfl) (by decide) (goI ?_)
    refine V.ifb_ne aX6_wouldLog_16 (tgt := 22) (by decide) (fun c16 => ?_) (fun c16 => ?_)
    · omega
    · refine V.bipush aX6_wouldLog_19 (by decide) (by decide) ?_
      refine V.iret aX6_wouldLog_21 rfl (by decide) ?_
      exact PX.of rfl rfl rfl rfl rfl rfl rfl rfl
  · omega
theorem ok_wouldLog3 {p v : Int} (hN : Num s) (hE : EntS s) (hC : CellS s) (h : 0 ≤ p ∧ p ≤ 5) (h2 : 0 ≤ v ∧ v ≤ 9) : Ok G kX6_wouldLog 8 [.inr (some o), .inl p, .inl v] sz (MM m o s sp pa sv sh ish tx ln cl bf mk st) 0 0 (PX m o (chMk s cl (mkF p 1 0 12 v mk) 1) sz s pa sv sh ish tx ln) := by
  refine Ok.body [some (.inr (some o)), some (.inl p), some (.inl v)] rfl (Nat.le_of_ble_eq_true rfl) (by decide) ?_
  have hM : entOK (mkF p 1 0 12 v mk) 0 := mkF_ok (by omega) (by decide) (by omega) (by omega) (by omega) (by omega) (by omega)
  refine V.ild1 aX6_wouldLog_0 ?_
  refine call_X6_isPage aX6_wouldLog_1 gl_RX6_125 (ok_isPage) (Nat.le_of_ble_eq_true rfl) (by decide) (goI ?_)
  refine V.ifb_ne aX6_wouldLog_4 (tgt := 9) (by decide) (fun c4 => ?_) (fun c4 => ?_)
  · refine V.ild2 aX6_wouldLog_9 ?_
    refine V.iconst aX6_wouldLog_10 (by decide) ?_
    refine V.bipush aX6_wouldLog_11 (by decide) (by decide) ?_
    refine call_X6_in aX6_wouldLog_13 gl_RX6_35 (ok_in) (Nat.le_of_ble_eq_true rfl) (by decide) (goI ?_)
    refine V.ifb_ne aX6_wouldLog_16 (tgt := 22) (by decide) (fun c16 => ?_) (fun c16 => ?_)
    · refine V.ald0 aX6_wouldLog_22 ?_
      refine V.ild1 aX6_wouldLog_23 ?_
      refine V.iconst aX6_wouldLog_24 (by decide) ?_
      refine V.iconst aX6_wouldLog_25 (by decide) ?_
      refine V.bipush aX6_wouldLog_26 (by decide) (by decide) ?_
      refine V.ild2 aX6_wouldLog_28 ?_
      refine call_X6_makes aX6_wouldLog_29 gl_RX6_102 (ok_makes) (MM_o) (Nat.le_of_ble_eq_true rfl) (by decide) (goV ?_)
      refine V.ald0 aX6_wouldLog_32 ?_
      refine call_X6_chooses aX6_wouldLog_33 gl_RX6_115 (ok_chooses hN hE hC hM) (MM_o) (Nat.le_of_ble_eq_true rfl) (by decide) (goV ?_)
      refine V.ald0 aX6_wouldLog_36 ?_
      refine M.gf aX6_wouldLog_37 fl_RX6_32 rfl ?_
      refine V.iconst aX6_wouldLog_40 (by decide) ?_
      refine M.ldmk aX6_wouldLog_41 (by omega) ?_
      refine V.iret aX6_wouldLog_42 rfl (by decide) ?_
      exact PX.of rfl rfl rfl rfl rfl rfl rfl rfl
    · omega
  · omega
theorem ok_bestRenewed (hN : Num s) (hE : EntS s) : Ok G kX6_bestRenewed 8 [.inr (some o)] sz (MM m o s sp pa sv sh ish tx ln cl bf mk st) 0 0 (PX m o (bestZ s) sz s pa sv sh ish tx ln) := by
  refine Ok.body [some (.inr (some o)), none, none, none, none] rfl (Nat.le_of_ble_eq_true rfl) (by decide) ?_
  have loop : ∀ (n : Nat) (k : Int) (q : Int × Int) (x : Option AV), (6 - k).toNat < n → 0 ≤ k → k ≤ 6 → q = foldI (bestF s) (-5, 0) 0 k → V G kX6_bestRenewed (rmM 8 0 0) (QfM G (PX m o (bestZ s) sz s pa sv sh ish tx ln) 0 0) 7 [some (.inr (some o)), some (.inl q.1), some (.inl q.2), some (.inl k), x] [] sz (MM m o s sp pa sv sh ish tx ln cl bf mk st) 0 0 := by
    intro n
    induction n with
    | zero => intro k q x h; omega
    | succ n ih =>
      intro k q x hn hk1 hk2 hq
      have ht := timeOf_bb hN hE (p := k)
      have hpb := pict_b (f := s) (a := 8 + 12 * k)
      have es := foldI_s (f := bestF s) (z := (-5, 0)) (a := 0) (k := k) hk1
      rw [← hq] at es
      refine V.ild3 aX6_bestRenewed_7 ?_
      refine V.bipush aX6_bestRenewed_8 (by decide) (by decide) ?_
      refine V.icmp_ge aX6_bestRenewed_10 (tgt := 66) (by decide) (fun c10 => ?_) (fun c10 => ?_)
      · refine V.ild1 aX6_bestRenewed_66 ?_
        refine V.iret aX6_bestRenewed_67 rfl (by decide) ?_
        exact PX.of (by rw [hq, show k = 6 by omega]; rfl) rfl rfl rfl rfl rfl rfl rfl
      · refine V.ald0 aX6_bestRenewed_13 ?_
        refine V.ild3 aX6_bestRenewed_14 ?_
        refine call_X6_timeOf aX6_bestRenewed_15 gl_RX6_95 (ok_timeOf hN hE (by omega)) (MM_o) (Nat.le_of_ble_eq_true rfl) (by decide) (goI ?_)
        refine V.ald0 aX6_bestRenewed_18 ?_
        refine M.gf aX6_bestRenewed_19 fl_RX6_7 rfl ?_
        refine V.bipush aX6_bestRenewed_22 (by decide) (by decide) ?_
        refine V.bipush aX6_bestRenewed_24 (by decide) (by decide) ?_
        refine V.ild3 aX6_bestRenewed_26 ?_
        refine V.imul aX6_bestRenewed_27 (by omega) ?_
        refine V.iadd aX6_bestRenewed_28 (by omega) ?_
        refine call_X6_pictured aX6_bestRenewed_29 gl_RX6_59 (ok_pictured MM_s (by omega) (by omega) (by omega)) (Nat.le_of_ble_eq_true rfl) (by decide) (goI ?_)
        refine V.isub aX6_bestRenewed_32 (by omega) ?_
        refine V.ist4 aX6_bestRenewed_33 ?_
        refine V.ild4 aX6_bestRenewed_35 ?_
        refine V.ild2 aX6_bestRenewed_37 ?_
        refine V.icmp_le aX6_bestRenewed_38 (tgt := 45) (by decide) (fun c38 => ?_) (fun c38 => ?_)
        · refine V.ild1 aX6_bestRenewed_45 ?_
          refine V.ist1 aX6_bestRenewed_46 ?_
          refine V.ild4 aX6_bestRenewed_47 ?_
          refine V.ild2 aX6_bestRenewed_49 ?_
          refine V.icmp_le aX6_bestRenewed_50 (tgt := 58) (by decide) (fun c50 => ?_) (fun c50 => ?_)
          · refine V.ild2 aX6_bestRenewed_58 ?_
            refine V.ist2 aX6_bestRenewed_59 ?_
            refine V.inc3 aX6_bestRenewed_60 (by omega) ?_
            refine V.goto aX6_bestRenewed_63 (tgt := 7) (by decide) ?_
            have e1 : bestF s q k = (_, _) := rfl
            have h9 := ih (k + 1) (bestF s q k) (some (.inl (timeOf s k - pict s (8 + 12 * k)))) (by omega) (by omega) (by omega) es.symm
            unfold bestF at h9
            first | (rw [if_pos c38, if_pos c50] at h9; exact h9) | (rw [if_neg (by omega), if_neg (by omega)] at h9; exact h9) | (exfalso; omega)
          · refine V.ild4 aX6_bestRenewed_53 ?_
            refine V.goto aX6_bestRenewed_55 (tgt := 59) (by decide) ?_
            refine V.ist2 aX6_bestRenewed_59 ?_
            refine V.inc3 aX6_bestRenewed_60 (by omega) ?_
            refine V.goto aX6_bestRenewed_63 (tgt := 7) (by decide) ?_
            have e1 : bestF s q k = (_, _) := rfl
            have h9 := ih (k + 1) (bestF s q k) (some (.inl (timeOf s k - pict s (8 + 12 * k)))) (by omega) (by omega) (by omega) es.symm
            unfold bestF at h9
            first | (rw [if_pos c38, if_pos c50] at h9; exact h9) | (rw [if_neg (by omega), if_neg (by omega)] at h9; exact h9) | (exfalso; omega)
        · refine V.ild3 aX6_bestRenewed_41 ?_
          refine V.goto aX6_bestRenewed_42 (tgt := 46) (by decide) ?_
          refine V.ist1 aX6_bestRenewed_46 ?_
          refine V.ild4 aX6_bestRenewed_47 ?_
          refine V.ild2 aX6_bestRenewed_49 ?_
          refine V.icmp_le aX6_bestRenewed_50 (tgt := 58) (by decide) (fun c50 => ?_) (fun c50 => ?_)
          · refine V.ild2 aX6_bestRenewed_58 ?_
            refine V.ist2 aX6_bestRenewed_59 ?_
            refine V.inc3 aX6_bestRenewed_60 (by omega) ?_
            refine V.goto aX6_bestRenewed_63 (tgt := 7) (by decide) ?_
            have e1 : bestF s q k = (_, _) := rfl
            have h9 := ih (k + 1) (bestF s q k) (some (.inl (timeOf s k - pict s (8 + 12 * k)))) (by omega) (by omega) (by omega) es.symm
            unfold bestF at h9
            first | (rw [if_pos c38, if_pos c50] at h9; exact h9) | (rw [if_neg (by omega), if_neg (by omega)] at h9; exact h9) | (exfalso; omega)
          · refine V.ild4 aX6_bestRenewed_53 ?_
            refine V.goto aX6_bestRenewed_55 (tgt := 59) (by decide) ?_
            refine V.ist2 aX6_bestRenewed_59 ?_
            refine V.inc3 aX6_bestRenewed_60 (by omega) ?_
            refine V.goto aX6_bestRenewed_63 (tgt := 7) (by decide) ?_
            have e1 : bestF s q k = (_, _) := rfl
            have h9 := ih (k + 1) (bestF s q k) (some (.inl (timeOf s k - pict s (8 + 12 * k)))) (by omega) (by omega) (by omega) es.symm
            unfold bestF at h9
            first | (rw [if_pos c38, if_pos c50] at h9; exact h9) | (rw [if_neg (by omega), if_neg (by omega)] at h9; exact h9) | (exfalso; omega)
  refine V.bipush aX6_bestRenewed_0 (by decide) (by decide) ?_
  refine V.ist1 aX6_bestRenewed_2 ?_
  refine V.iconst aX6_bestRenewed_3 (by decide) ?_
  refine V.ist2 aX6_bestRenewed_4 ?_
  refine V.iconst aX6_bestRenewed_5 (by decide) ?_
  refine V.ist3 aX6_bestRenewed_6 ?_
  exact loop _ 0 (-5, 0) _ (Nat.lt_succ_self _) (by decide) (by decide) (foldI_0 (Int.le_refl _)).symm
theorem ok_ofPages {w : Int} (hN : Num s) (hE : EntS s) (hD : DoubS s) : Ok G kX6_ofPages 5 [.inr (some o), .inl w] sz (MM m o s sp pa sv sh ish tx ln cl bf mk st) 0 0 (PI (ofPages s w) sz (MM m o s sp pa sv sh ish tx ln cl bf mk st)) := by
  refine Ok.body [some (.inr (some o)), some (.inl w), none, none] rfl (Nat.le_of_ble_eq_true rfl) (by decide) ?_
  have loop : ∀ (n : Nat) (k r : Int), (6 - k).toNat < n → 0 ≤ k → k ≤ 6 → (0 ≤ r ∧ r ≤ 2705 * k) → r = foldI (fun sum p => sum + (if w = 7 then timeOf s p else s (158 + p))) 0 0 k → V G kX6_ofPages (rmM 5 0 0) (QfM G (PI (ofPages s w) sz (MM m o s sp pa sv sh ish tx ln cl bf mk st)) 0 0) 4 [some (.inr (some o)), some (.inl w), some (.inl r), some (.inl k)] [] sz (MM m o s sp pa sv sh ish tx ln cl bf mk st) 0 0 := by
    intro n
    induction n with
    | zero => intro k r h; omega
    | succ n ih =>
      intro k r hn hk1 hk2 hb hr
      have ht := timeOf_bb hN hE (p := k)
      refine V.ild3 aX6_ofPages_4 ?_
      refine V.bipush aX6_ofPages_5 (by decide) (by decide) ?_
      refine V.icmp_ge aX6_ofPages_7 (tgt := 43) (by decide) (fun c7 => ?_) (fun c7 => ?_)
      · refine V.ild2 aX6_ofPages_43 ?_
        refine V.iret aX6_ofPages_44 rfl (by decide) ?_
        exact PI.of (by rw [hr, show k = 6 by omega]; rfl)
      · have hd := hD k hk1 (by omega)
        refine V.ild2 aX6_ofPages_10 ?_
        refine V.ild1 aX6_ofPages_11 ?_
        refine V.bipush aX6_ofPages_12 (by decide) (by decide) ?_
        refine V.icmp_ne aX6_ofPages_14 (tgt := 25) (by decide) (fun c14 => ?_) (fun c14 => ?_)
        · refine V.ald0 aX6_ofPages_25 ?_
          refine M.gf aX6_ofPages_26 fl_RX6_7 rfl ?_
          refine V.sipush aX6_ofPages_29 (by decide) (by decide) ?_
          refine V.ild3 aX6_ofPages_32 ?_
          refine V.iadd aX6_ofPages_33 (by omega) ?_
          refine M.lds aX6_ofPages_34 (by omega) ?_
          refine V.iadd aX6_ofPages_35 (by omega) ?_
          refine V.ist2 aX6_ofPages_36 ?_
          refine V.inc3 aX6_ofPages_37 (by omega) ?_
          refine V.goto aX6_ofPages_40 (tgt := 4) (by decide) ?_
          refine ih (k + 1) _ (by omega) (by omega) (by omega) (by omega) ?_
          rw [foldI_s (by omega), ← hr]
          first | rw [if_pos c14] | rw [if_neg c14]
        · refine V.ald0 aX6_ofPages_17 ?_
          refine V.ild3 aX6_ofPages_18 ?_
          refine call_X6_timeOf aX6_ofPages_19 gl_RX6_95 (ok_timeOf hN hE (by omega)) (MM_o) (Nat.le_of_ble_eq_true rfl) (by decide) (goI ?_)
          refine V.goto aX6_ofPages_22 (tgt := 35) (by decide) ?_
          refine V.iadd aX6_ofPages_35 (by omega) ?_
          refine V.ist2 aX6_ofPages_36 ?_
          refine V.inc3 aX6_ofPages_37 (by omega) ?_
          refine V.goto aX6_ofPages_40 (tgt := 4) (by decide) ?_
          refine ih (k + 1) _ (by omega) (by omega) (by omega) (by omega) ?_
          rw [foldI_s (by omega), ← hr]
          first | rw [if_pos c14] | rw [if_neg c14]
  refine V.iconst aX6_ofPages_0 (by decide) ?_
  refine V.ist2 aX6_ofPages_1 ?_
  refine V.iconst aX6_ofPages_2 (by decide) ?_
  refine V.ist3 aX6_ofPages_3 ?_
  exact loop _ _ _ (Nat.lt_succ_self _) (by decide) (by decide) (by decide) (foldI_0 (Int.le_refl _)).symm
theorem ok_count {w : Int} (hN : Num s) (hE : EntS s) (hD : DoubS s) : Ok G kX6_count 8 [.inr (some o), .inl w] sz (MM m o s sp pa sv sh ish tx ln cl bf mk st) 0 0 (PX m o (countZ s sv ln w) sz s pa sv sh ish tx ln) := by
  refine Ok.body [some (.inr (some o)), some (.inl w)] rfl (Nat.le_of_ble_eq_true rfl) (by decide) ?_
  obtain ⟨n0, n1, n2, n3, n4⟩ := id hN
  refine V.ild1 aX6_count_0 ?_
  refine V.tsw14 aX6_count_1 (t0 := 72) (t1 := 79) (t2 := 93) (t3 := 98) (t4 := 105) (t5 := 112) (t6 := 117) (t7 := 131) (t8 := 131) (t9 := 137) (t10 := 144) (t11 := 152) (t12 := 160) (t13 := 165) (t14 := 170) (by decide) (by decide) (by decide) (by decide) (by decide) (by decide) (by decide) (by decide) (by decide) (by decide) (by decide) (by decide) (by decide) (by decide) (by decide) (fun c1 => ?_) (fun c1 => ?_) (fun c1 => ?_) (fun c1 => ?_) (fun c1 => ?_) (fun c1 => ?_) (fun c1 => ?_) (fun c1 => ?_) (fun c1 => ?_) (fun c1 => ?_) (fun c1 => ?_) (fun c1 => ?_) (fun c1 => ?_) (fun c1 => ?_) (fun c1 => ?_)
  · refine V.ald0 aX6_count_72 ?_
    refine M.gf aX6_count_73 fl_RX6_7 rfl ?_
    refine V.iconst aX6_count_76 (by decide) ?_
    refine M.lds aX6_count_77 (by omega) ?_
    refine V.iret aX6_count_78 rfl (by decide) ?_
    exact PX.of (by unfold countZ; first | (simp [c1]; done) | (repeat rw [if_neg (by omega)])) rfl rfl rfl rfl rfl rfl rfl
  · refine V.ald0 aX6_count_79 ?_
    refine M.gf aX6_count_80 fl_RX6_7 rfl ?_
    refine V.iconst aX6_count_83 (by decide) ?_
    refine M.lds aX6_count_84 (by omega) ?_
    refine V.ald0 aX6_count_85 ?_
    refine M.gf aX6_count_86 fl_RX6_7 rfl ?_
    refine V.iconst aX6_count_89 (by decide) ?_
    refine M.lds aX6_count_90 (by omega) ?_
    refine V.isub aX6_count_91 (by omega) ?_
    refine V.iret aX6_count_92 rfl (by decide) ?_
    exact PX.of (by unfold countZ; first | (simp [c1]; done) | (repeat rw [if_neg (by omega)])) rfl rfl rfl rfl rfl rfl rfl
  · refine V.ald0 aX6_count_93 ?_
    refine call_X6_used aX6_count_94 gl_RX6_91 (ok_used hN hE) (MM_o) (Nat.le_of_ble_eq_true rfl) (by decide) (goI ?_)
    refine V.iret aX6_count_97 rfl (by decide) ?_
    exact PX.of (by unfold countZ; first | (simp [c1]; done) | (repeat rw [if_neg (by omega)])) rfl rfl rfl rfl rfl rfl rfl
  · refine V.ald0 aX6_count_98 ?_
    refine M.gf aX6_count_99 fl_RX6_7 rfl ?_
    refine V.iconst aX6_count_102 (by decide) ?_
    refine M.lds aX6_count_103 (by omega) ?_
    refine V.iret aX6_count_104 rfl (by decide) ?_
    exact PX.of (by unfold countZ; first | (simp [c1]; done) | (repeat rw [if_neg (by omega)])) rfl rfl rfl rfl rfl rfl rfl
  · refine V.ald0 aX6_count_105 ?_
    refine M.gf aX6_count_106 fl_RX6_7 rfl ?_
    refine V.iconst aX6_count_109 (by decide) ?_
    refine M.lds aX6_count_110 (by omega) ?_
    refine V.iret aX6_count_111 rfl (by decide) ?_
    exact PX.of (by unfold countZ; first | (simp [c1]; done) | (repeat rw [if_neg (by omega)])) rfl rfl rfl rfl rfl rfl rfl
  · refine V.ald0 aX6_count_112 ?_
    refine call_X6_neededMany aX6_count_113 gl_RX6_171 (ok_neededMany hN hE) (MM_o) (Nat.le_of_ble_eq_true rfl) (by decide) (goI ?_)
    refine V.iret aX6_count_116 rfl (by decide) ?_
    exact PX.of (by unfold countZ; first | (simp [c1]; done) | (repeat rw [if_neg (by omega)])) rfl rfl rfl rfl rfl rfl rfl
  · refine V.ald0 aX6_count_117 ?_
    refine M.gf aX6_count_118 fl_RX6_7 rfl ?_
    refine V.iconst aX6_count_121 (by decide) ?_
    refine M.lds aX6_count_122 (by omega) ?_
    refine V.ald0 aX6_count_123 ?_
    refine M.gf aX6_count_124 fl_RX6_7 rfl ?_
    refine V.iconst aX6_count_127 (by decide) ?_
    refine M.lds aX6_count_128 (by omega) ?_
    refine V.isub aX6_count_129 (by omega) ?_
    refine V.iret aX6_count_130 rfl (by decide) ?_
    exact PX.of (by unfold countZ; first | (simp [c1]; done) | (repeat rw [if_neg (by omega)])) rfl rfl rfl rfl rfl rfl rfl
  · refine V.ald0 aX6_count_131 ?_
    refine V.ild1 aX6_count_132 ?_
    refine call_X6_ofPages aX6_count_133 gl_RX6_192 (ok_ofPages hN hE hD) (MM_o) (Nat.le_of_ble_eq_true rfl) (by decide) (goI ?_)
    refine V.iret aX6_count_136 rfl (by decide) ?_
    exact PX.of (by unfold countZ; first | (simp [c1]; done) | (repeat rw [if_neg (by omega)])) rfl rfl rfl rfl rfl rfl rfl
  · refine V.ald0 aX6_count_131 ?_
    refine V.ild1 aX6_count_132 ?_
    refine call_X6_ofPages aX6_count_133 gl_RX6_192 (ok_ofPages hN hE hD) (MM_o) (Nat.le_of_ble_eq_true rfl) (by decide) (goI ?_)
    refine V.iret aX6_count_136 rfl (by decide) ?_
    exact PX.of (by unfold countZ; first | (simp [c1]; done) | (repeat rw [if_neg (by omega)])) rfl rfl rfl rfl rfl rfl rfl
  · refine V.ald0 aX6_count_137 ?_
    refine M.gf aX6_count_138 fl_RX6_7 rfl ?_
    refine V.iconst aX6_count_141 (by decide) ?_
    refine M.lds aX6_count_142 (by omega) ?_
    refine V.iret aX6_count_143 rfl (by decide) ?_
    exact PX.of (by unfold countZ; first | (simp [c1]; done) | (repeat rw [if_neg (by omega)])) rfl rfl rfl rfl rfl rfl rfl
  · refine V.ald0 aX6_count_144 ?_
    refine M.gf aX6_count_145 fl_RX6_7 rfl ?_
    refine V.bipush aX6_count_148 (by decide) (by decide) ?_
    refine M.lds aX6_count_150 (by omega) ?_
    refine V.iret aX6_count_151 rfl (by decide) ?_
    exact PX.of (by unfold countZ; first | (simp [c1]; done) | (repeat rw [if_neg (by omega)])) rfl rfl rfl rfl rfl rfl rfl
  · refine V.ald0 aX6_count_152 ?_
    refine M.gf aX6_count_153 fl_RX6_7 rfl ?_
    refine V.bipush aX6_count_156 (by decide) (by decide) ?_
    refine M.lds aX6_count_158 (by omega) ?_
    refine V.iret aX6_count_159 rfl (by decide) ?_
    exact PX.of (by unfold countZ; first | (simp [c1]; done) | (repeat rw [if_neg (by omega)])) rfl rfl rfl rfl rfl rfl rfl
  · refine V.ald0 aX6_count_160 ?_
    refine M.gf aX6_count_161 fl_RX6_39 rfl ?_
    refine V.iret aX6_count_164 rfl (by decide) ?_
    exact PX.of (by unfold countZ; first | (simp [c1]; done) | (repeat rw [if_neg (by omega)])) rfl rfl rfl rfl rfl rfl rfl
  · refine V.ald0 aX6_count_165 ?_
    refine M.gf aX6_count_166 fl_RX6_134 rfl ?_
    refine V.iret aX6_count_169 rfl (by decide) ?_
    exact PX.of (by unfold countZ; first | (simp [c1]; done) | (repeat rw [if_neg (by omega)])) rfl rfl rfl rfl rfl rfl rfl
  · refine V.bipush aX6_count_170 (by decide) (by decide) ?_
    refine V.iret aX6_count_172 rfl (by decide) ?_
    exact PX.of (by unfold countZ; first | (simp [c1]; done) | (repeat rw [if_neg (by omega)])) rfl rfl rfl rfl rfl rfl rfl
end

