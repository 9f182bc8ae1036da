-- a change is carried out (part two)
theorem picF_size {p : Int} {cl c' w : Int → Int} (h : Eq12 cl c') : sizeA (picF p cl w) 0 = pict c' 0 := by
  have e1 : picF p cl w (0 + 1) = 0 := picF_lo (j := 1) (by decide)
  unfold sizeA
  rw [if_pos e1]
  unfold pict pictR
  have : foldI (pictF (picF p cl w) (0 + 5)) 1 1 12 = foldI (pictF c' 0) 1 1 12 := foldI_congr (fun k x h0 h1 => by
    unfold pictF
    rw [show (0 : Int) + 5 + k = 5 + k by omega, show (5 : Int) + k - 1 = 5 + (k - 1) by omega, picF_v (by omega), picF_v (by omega), show (0 : Int) + k = k by omega, h _ (by omega) (by omega), h _ (by omega) (by omega)])
  rw [this]
theorem pic_ent {Z t0 : Nat} {m : Mem} {e ra : Nat} {p : Int} {cl c' w : Int → Int} (h : Eq12 cl c') (ho : m e = obj 0 (fobj p 0 0 11 0 ra 0 (pict c' 0))) (hr : m ra = iar 12 c') (hZ : Z ≤ e ∧ Z ≤ ra) : EntR Z t0 m e (picF p cl w) 0 := by
  have e0 : picF p cl w 0 = p := picF_lo (j := 0) (by decide)
  have e1 : picF p cl w (0 + 1) = 0 := picF_lo (j := 1) (by decide)
  have e2 : picF p cl w (0 + 2) = 0 := picF_lo (j := 2) (by decide)
  have e3 : picF p cl w (0 + 3) = 12 := picF_lo (j := 3) (by decide)
  have e4 : picF p cl w (0 + 4) = 0 := picF_lo (j := 4) (by decide)
  refine ⟨hZ.1, 0, ra, 12, c', ?_, Or.inl hZ.2, hr, fun q => absurd e1 q, fun _ => ⟨rfl, fun j j0 j1 => ?_⟩, fun q => ?_⟩
  · unfold eobj
    rw [e0, e1, e2, e3, e4, picF_size h]
    exact ho
  · rw [show (0 : Int) + 5 + j = 5 + j by omega, picF_v ⟨j0, j1⟩]
    exact h j j0 j1
  · rw [e1] at q
    exact absurd q (by decide)
theorem doMk_pic {s w : Int → Int} (h : w 1 = 0 ∨ chIs s Zr w) : doMk s Zr w = picF (w 0) (doCl s Zr w) w := by
  unfold doMk doCl
  by_cases q : w 1 = 0
  · rw [if_pos q, if_pos q]; rfl
  · rw [if_neg q, if_neg q]
    unfold chMk
    rw [if_pos (h.resolve_left q)]
theorem doMk_own {s w : Int → Int} (h : ¬ (w 1 = 0 ∨ chIs s Zr w)) : doMk s Zr w = w := by
  unfold doMk
  rw [if_neg (fun q => h (Or.inl q))]
  unfold chMk
  rw [if_neg (fun q => h (Or.inr q))]
theorem doMk_0 {s w : Int → Int} : doMk s Zr w 0 = w 0 := by
  by_cases h : w 1 = 0 ∨ chIs s Zr w
  · rw [doMk_pic h]; exact picF_lo (j := 0) (by decide)
  · rw [doMk_own h]
theorem logsF_out {s c d mk : Int → Int} (hM : 0 ≤ mk 0 ∧ mk 0 < 6) {j : Int} (h : j < 8 + 12 * mk 0 ∨ 8 + 12 * mk 0 + 12 ≤ j) : logsF s c mk j = logsF s d mk j := by
  have e : ∀ j, (j < 8 + 12 * mk 0 ∨ 8 + 12 * mk 0 + 12 ≤ j) → logS4 s c mk j = logS4 s d mk j := fun j hj => by
    unfold logS4
    rw [cpy_out hj, cpy_out hj]
  have e5 : ∀ j, (j < 8 + 12 * mk 0 ∨ 8 + 12 * mk 0 + 12 ≤ j) → logS5 s c mk j = logS5 s d mk j := fun j hj => by
    unfold logS5
    rw [e (158 + mk 0) (by omega)]
    by_cases q : j = 158 + mk 0
    · subst q; rw [upI_s, upI_s]
    · rw [upI_n q, upI_n q, e j hj]
  unfold logsF
  rw [e5 (if mk 1 = 0 then 5 else 6) (by split <;> omega)]
  by_cases q : j = (if mk 1 = 0 then 5 else 6)
  · rw [← q, upI_s, upI_s]
  · rw [upI_n q, upI_n q, e5 j h]
def PC (m : Mem) (B Z t0 sz : Nat) (s w : Int → Int) : PO := fun ret z m' => sz ≤ z ∧ if fits1 s (doMk s Zr w) then ret = some (.inl (doMk s Zr w 1)) ∧ ∃ m1 g', Ext m m1 ∧ m' = BM m1 B (doS s Zr w) g' ∧ EntsR Z t0 m1 (doS s Zr w) g' ∧ SlotsR Z m1 g' else ret = some (.inl (-3)) ∧ ∃ m1 s' g', Ext m m1 ∧ m' = BM m1 B s' g'
section
variable {G : GX} {sz : Nat} {m : Mem} {B Z t0 : Nat} {s : Int → Int} {g : Int → Option Nat} {C : Int}
theorem ok_carry {e : Nat} {w : Int → Int} (hA : AskR Z t0 m e w) (hI : Inv C s) (hC : C + 1 ≤ 20000) (hR : EntsR Z t0 m s g) (hS : SlotsR Z m g) (hZ : B + 22 ≤ Z ∧ Z ≤ sz) (ht : t0 < B) : Ok G kX4_carryOut 5 [.inr (some B), .inr (some e)] sz (BM m B s g) 2 20 (PC m B Z t0 sz s w) := by
  refine Ok.body [some (.inr (some B)), some (.inr (some e)), none, none] rfl (Nat.le_of_ble_eq_true rfl) (by decide) ?_
  refine V.knowS (fun hu _ => ?_)
  have hun : ∀ a, sz ≤ a → m a = unk := fun a ha => by
    have := hu a ha
    rw [BM_n (Or.inr (by omega))] at this
    exact this
  have hpg := hA.pg
  have hMk : entOK (doMk s Zr w) 0 := doMk_ok hI.C hA.ok hpg
  have h0 : doMk s Zr w 0 = w 0 := doMk_0
  have bad : ∀ (m2 : Mem) (s' : Int → Int) (g' : Int → Option Nat) (z k n : Nat) (a b : Option AV), Ext m m2 → sz ≤ z → k ≤ 2 → n ≤ 20 → ¬ fits1 s (doMk s Zr w) → V G kX4_carryOut (rmM 5 2 20) (QfM G (PC m B Z t0 sz s w) 2 20) 31 [some (.inr (some B)), some (.inr (some e)), a, b] [.inl (-3)] z (BM m2 B s' g') k n := by
    intro m2 s' g' z k n a b hx hz hk hn hf
    refine V.ist3 aX4_carryOut_31 ?_
    refine V.ild3 aX4_carryOut_32 ?_
    refine V.bipush aX4_carryOut_33 (by decide) (by decide) ?_
    refine V.icmp_eq aX4_carryOut_35 (tgt := 58) (by decide) (fun c35 => ?_) (fun c35 => ?_)
    · refine V.ild3 aX4_carryOut_58 ?_
      refine V.iret aX4_carryOut_59 rfl ⟨hk, hn⟩ ?_
      refine ⟨hz, ?_⟩
      rw [if_neg hf]
      exact ⟨rfl, m2, _, _, hx, rfl⟩
    · exact absurd rfl c35
  have good : ∀ (m2 : Mem) (g' : Int → Option Nat) (c' : Int → Int) (ra z k n : Nat) (b : Option AV), Ext m m2 → sz ≤ z → k ≤ 2 → n ≤ 20 → fits1 s (doMk s Zr w) → Eq12 (doCl s Zr w) c' → m2 ra = iar 12 c' → Z ≤ ra → EntsR Z t0 m2 (logsF s (ownF s (doMk s Zr w)) (doMk s Zr w)) g' → SlotsR Z m2 g' → V G kX4_carryOut (rmM 5 2 20) (QfM G (PC m B Z t0 sz s w) 2 20) 31 [some (.inr (some B)), some (.inr (some e)), some (.inr (some ra)), b] [.inl (doMk s Zr w 1)] z (BM m2 B (logsF s (ownF s (doMk s Zr w)) (doMk s Zr w)) g') k n := by
    intro m2 g' c' ra z k n b hx hz hk hn hf hc hra hZr tR tS
    have hk1 := hMk.2.1
    rw [show (0 : Int) + 1 = 1 from rfl] at hk1
    obtain ⟨fr, to, am, va, dm, size, ho', hZe⟩ := (hA.ext hx).obj
    have ho : ∀ s' g', BM m2 B s' g' e = obj 0 (fobj (w 0) (w 1) fr to am va dm size) := fun s' g' => (BM_n (Or.inr (by omega))).trans ho'
    have hr : ∀ s' g', BM m2 B s' g' ra = iar 12 c' := fun s' g' => (BM_n (Or.inr (by omega))).trans hra
    refine V.ist3 aX4_carryOut_31 ?_
    refine V.ild3 aX4_carryOut_32 ?_
    refine V.bipush aX4_carryOut_33 (by decide) (by decide) ?_
    refine V.icmp_eq aX4_carryOut_35 (tgt := 58) (by decide) (fun c35 => ?_) (fun c35 => ?_)
    · exfalso
      omega
    · refine V.ald2 aX4_carryOut_38 ?_
      refine V.iconst aX4_carryOut_39 (by decide) ?_
      refine V.ald0 aX4_carryOut_40 ?_
      refine U.gfS aX4_carryOut_41 fl_RX4_11 rfl ?_
      refine V.ald1 aX4_carryOut_44 ?_
      refine V.getf aX4_carryOut_45 fl_RX4_61 (ho _ _) rfl ?_
      refine U.aaP aX4_carryOut_48 (by omega) ?_
      refine U.gfP aX4_carryOut_49 fl_RX4_122 (by omega) rfl ?_
      refine V.iconst aX4_carryOut_52 (by decide) ?_
      refine V.bipush aX4_carryOut_53 (by decide) (by decide) ?_
      refine V.copy aX4_carryOut_55 gl_RX4_102 gi_RJ10 (hr _ _) (BM_c hpg) (by omega) (by decide) (by decide) ?_
      refine V.mem (BM_wc hpg (fun j hj => by rw [if_neg (by omega), r12_out hj])).symm ?_
      refine V.ild3 aX4_carryOut_58 ?_
      refine V.iret aX4_carryOut_59 rfl ⟨hk, hn⟩ ?_
      refine ⟨hz, ?_⟩
      rw [if_pos hf]
      have eS : doS s Zr w = logsF s (doCl s Zr w) (doMk s Zr w) := if_pos hf
      refine ⟨rfl, m2, g', hx, ?_, ?_, tS⟩
      · refine BM_congr (fun j j0 j1 => ?_)
        rw [eS]
        by_cases q : 8 + 12 * w 0 ≤ j ∧ j < 8 + 12 * w 0 + 12
        · rw [cpy_in q, if_pos (by omega), lg_cell hI.N hI.E hMk ⟨by omega, by omega⟩, h0, if_pos q, show (0 : Int) + (0 + (j - (8 + 12 * w 0)) - 0) = 0 + (j - (8 + 12 * w 0)) by omega, hc _ (by omega) (by omega)]
        · rw [cpy_out (by omega), logsF_out (by rw [h0]; exact hpg) (c := ownF s (doMk s Zr w)) (d := doCl s Zr w) (by rw [h0]; omega)]
      · rw [eS]
        exact tR.same2 (logsF_out (by rw [h0]; exact hpg) (by omega)) (logsF_out (by rw [h0]; exact hpg) (by omega)) (fun j hj => logsF_out (by rw [h0]; exact hpg) (by omega))
  have tail : ∀ (m2 : Mem) (e2 : Nat) (c' : Int → Int) (ra z k n : Nat) (b : Option AV), Ext m m2 → sz ≤ z → k ≤ 2 → n ≤ 20 → Eq12 (doCl s Zr w) c' → m2 ra = iar 12 c' → Z ≤ ra → EntR Z t0 m2 e2 (doMk s Zr w) 0 → V G kX4_carryOut (rmM 5 2 20) (QfM G (PC m B Z t0 sz s w) 2 20) 28 [some (.inr (some B)), some (.inr (some e)), some (.inr (some ra)), b] [.inr (some e2), .inr (some B)] z (BM m2 B s g) k n := by
    intro m2 e2 c' ra z k n b hx hz hk hn hc hra hZr he2
    have hR2 := hR.ext hx
    have hS2 := hS.ext hx
    refine call_X4_append aX4_carryOut_28 gl_RX4_149 (ok_append4 hI hC hR2 hS2 hZ.1 hMk he2) (BM_S) (Nat.le_of_ble_eq_true rfl) ⟨by decide, by show k + 0 ≤ 2; omega, by show n + 0 ≤ 20; omega⟩ (fun r28 z28 m28 h28 => ?_)
    by_cases hf : fits1 s (doMk s Zr w)
    · rw [if_pos hf] at h28
      obtain ⟨rfl, rfl, g', rfl, tR, tS⟩ := h28
      exact good m2 g' c' ra _ _ _ _ hx hz hk hn hf hc hra hZr tR tS
    · rw [if_neg hf] at h28
      obtain ⟨rfl, rfl, s', g', rfl⟩ := h28
      exact bad m2 s' g' _ _ _ _ _ hx hz hk hn hf
    skip
  refine V.ald0 aX4_carryOut_0 ?_
  refine V.ald1 aX4_carryOut_1 ?_
  refine call_X4_rowBehind aX4_carryOut_2 gl_RX4_137 (ok_row4 hA hI.C hZ ht) (BM_S) (Nat.le_of_ble_eq_true rfl) (by decide) (fun r2 z2 m2 h2 => ?_)
  obtain ⟨rfl, rfl, c', hc, rfl⟩ := h2
  have hx : Ext m (upM m sz (iar 12 c')) := Ext.new (hun sz (Nat.le_refl _))
  have hA1 := hA.ext hx
  have hR1 := hR.ext hx
  have hv : (BM (upM m sz (iar 12 c')) B s g) sz = iar 12 c' := (BM_n (Or.inr (by omega))).trans upM_s
  obtain ⟨fr, to, am, va, dm, size, ho', hZe⟩ := hA1.obj
  have ho : (BM (upM m sz (iar 12 c')) B s g) e = obj 0 (fobj (w 0) (w 1) fr to am va dm size) := (BM_n (Or.inr (by omega))).trans ho'
  refine V.ast2 aX4_carryOut_5 ?_
  refine V.ald0 aX4_carryOut_6 ?_
  refine V.ald0 aX4_carryOut_7 ?_
  refine V.ald1 aX4_carryOut_8 ?_
  refine V.ald2 aX4_carryOut_9 ?_
  refine call_X4_isLoggedAsPicture aX4_carryOut_10 gl_RX4_141 (ok_isLog hA1 hc hI.N hI.E hR1 hI.P hZ.1 hv) (BM_S) (Nat.le_of_ble_eq_true rfl) (by decide) (goI ?_)
  refine V.ifb_eq aX4_carryOut_13 (tgt := 27) (by decide) (fun c13 => ?_) (fun c13 => ?_)
  · have hw : doMk s Zr w = w := doMk_own c13
    refine V.ald1 aX4_carryOut_27 ?_
    first
      | (refine tail _ _ c' _ _ _ _ _ (hx.tr (Ext.new ?_)) (by omega) (by decide) (by decide) hc ?_ hZ.2 ?_
         · rw [upM_n (by omega)]; exact hun _ (by omega)
         · rw [upM_n (by omega), upM_s]
         · rw [doMk_pic c13]; exact pic_ent hc (upM_s) (by rw [upM_n (by omega), upM_s]) ⟨by omega, hZ.2⟩)
      | (rcases hA1 with ⟨h1, h2, h3⟩ | ⟨h1, -⟩
         · exact tail _ _ c' _ _ _ _ _ hx (by omega) (by decide) (by decide) hc upM_s hZ.2 (by rw [hw]; exact h3)
         · exact absurd (Or.inl h1) c13)
  · refine V.ald1 aX4_carryOut_16 ?_
    refine V.getf aX4_carryOut_17 fl_RX4_61 ho rfl ?_
    refine V.ald2 aX4_carryOut_20 ?_
    refine call_X0_ofPicture aX4_carryOut_21 gl_RX4_145 (ok_ofPicture hv (Or.inl rfl) (by omega)) (Nat.le_of_ble_eq_true rfl) (by decide) (goR ?_)
    rw [BM_new (by omega)]
    refine V.goto aX4_carryOut_24 (tgt := 28) (by decide) ?_
    first
      | (refine tail _ _ c' _ _ _ _ _ (hx.tr (Ext.new ?_)) (by omega) (by decide) (by decide) hc ?_ hZ.2 ?_
         · rw [upM_n (by omega)]; exact hun _ (by omega)
         · rw [upM_n (by omega), upM_s]
         · rw [doMk_pic c13]; exact pic_ent hc (upM_s) (by rw [upM_n (by omega), upM_s]) ⟨by omega, hZ.2⟩)
      | (rcases hA1 with ⟨h1, h2, h3⟩ | ⟨h1, -⟩
         · exact tail _ _ c' _ _ _ _ _ hx (by omega) (by decide) (by decide) hc upM_s hZ.2 (by rw [hw]; exact h3)
         · exact absurd (Or.inl h1) c13)
end
