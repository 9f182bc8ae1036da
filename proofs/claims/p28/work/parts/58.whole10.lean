-- acts of the whole log (part six): the text
section
variable {G : GX} {sz : Nat} {m m1 mb : Mem} {X Z t0 : Nat} {C D : Int} {b c : BS} {h : Int → Nat × BS} {sv ish ln : Int} {tx : Int → Int}
theorem PQ.num {sv2 ish2 ln2 : Int} (p : PQ m X Z t0 mb C b h c sv ish tx ln) (hv : (0 ≤ sv2 ∧ sv2 ≤ sv) ∧ (ish2 = 0 ∨ ish2 = ish) ∧ 0 ≤ ln2 ∧ ln2 ≤ 60) : PQ (upM m X (obj 5 (xobj X sv2 ish2 ln2))) X Z t0 mb C b h c sv2 ish2 tx ln2 := by
  obtain ⟨p0, u1, u2, u3⟩ := p
  have p9 := p0.2.2.2.2.2.2.2.2.1
  have p10 := p0.2.2.2.2.2.2.2.2.2
  have e : ExtA X m (upM m X (obj 5 (xobj X sv2 ish2 ln2))) := fun a ha => upM_n ha
  exact ⟨p0.num ⟨by omega, by omega, hv.2.2⟩, u1.extA e (by omega), fun q => (u2 (by omega)).extA e (by omega), fun i i0 i1 => (u3 i i0 (by omega)).extA e (by omega)⟩
theorem PQ.txt {t2 : Int → Int} (p : PQ m X Z t0 mb C b h c sv ish tx ln) : PQ (upM m (X + 156) (car 60 t2)) X Z t0 mb C b h c sv ish t2 ln := by
  obtain ⟨p0, u1, u2, u3⟩ := p
  obtain ⟨p1, p2, p3, ⟨h0, p4⟩, p5, p6, p7, p8, p9, p10⟩ := p0
  have e : ExtA (X + 156) m (upM m (X + 156) (car 60 t2)) := fun a ha => upM_n ha
  refine ⟨⟨?_, ?_, upM_s, ⟨h0, ?_⟩, p5.extA e (by omega) (by omega), p6.extA e (by omega) (by omega), fun i i0 i1 => ?_, p8, p9, p10.1, p10.2.1, p10.2.2.1, p10.2.2.2.1, p10.2.2.2.2.extA e (by omega)⟩, u1.extA e (by omega), fun q => (u2 q).extA e (by omega), fun i i0 i1 => (u3 i i0 i1).extA e (by omega)⟩
  · rw [e _ (by omega)]; exact p1
  · rw [e _ (by omega)]; exact p2
  · rw [e _ (by omega)]; exact p4
  · have := (p8 i i0 i1).1
    exact (p7 i i0 i1).extA e (by omega) (by omega)
theorem ok5_clearText (p : PQ m X Z t0 mb C b h c sv ish tx ln) : Ok G kX5_clearText 0 [.inr (some X)] sz m 0 0 (fun ret z m' => ret = some (.inl ln) ∧ z = sz ∧ PQ m' X Z t0 mb C b h c sv ish tx 0) := by
  refine Ok.body [some (.inr (some X)), none] rfl (Nat.le_of_ble_eq_true rfl) (by decide) ?_
  have hs := p.sv_b
  have hx := p.1.1
  refine V.ald0 aX5_clearText_0 ?_
  refine V.getf aX5_clearText_1 fl_RX5_74 hx rfl ?_
  refine V.ist1 aX5_clearText_4 ?_
  refine V.ald0 aX5_clearText_5 ?_
  refine V.iconst aX5_clearText_6 (by decide) ?_
  refine V.putf aX5_clearText_7 fl_RX5_74 hx (Nat.le_of_ble_eq_true rfl) rfl rfl ?_
  refine V.ild1 aX5_clearText_10 ?_
  refine V.iret aX5_clearText_11 rfl (by decide) ?_
  exact ⟨rfl, rfl, p.num ⟨⟨hs.1, Int.le_refl _⟩, Or.inr rfl, by decide, by decide⟩⟩
theorem ok5_type1 {ch : Int} (p : PQ m X Z t0 mb C b h c sv ish tx ln) (hl : ln = 60) : Ok G kX5_type 0 [.inr (some X), .inl ch] sz m 0 0 (PI (-3) sz m) := by
  refine Ok.body [some (.inr (some X)), some (.inl ch)] rfl (Nat.le_of_ble_eq_true rfl) (by decide) ?_
  have hx := p.1.1
  have ht := p.1.2.2.1
  refine V.ald0 aX5_type_0 ?_
  refine V.getf aX5_type_1 fl_RX5_74 hx rfl ?_
  refine V.ald0 aX5_type_4 ?_
  refine V.getf aX5_type_5 fl_RX5_23 hx rfl ?_
  refine V.alenC aX5_type_8 ht (by decide) ?_
  refine V.icmp_lt aX5_type_9 (tgt := 15) (by decide) (fun c9 => ?_) (fun c9 => ?_)
  · exfalso
    omega
  · refine V.bipush aX5_type_12 (by decide) (by decide) ?_
    refine V.iret aX5_type_14 rfl (by decide) ?_
    exact PI.of rfl
theorem ok5_type2 {ch : Int} (p : PQ m X Z t0 mb C b h c sv ish tx ln) (hl : ln < 60) (hc : 0 ≤ ch ∧ ch < 65536) : Ok G kX5_type 0 [.inr (some X), .inl ch] sz m 0 0 (fun ret z m' => ret = some (.inl (ln + 1)) ∧ z = sz ∧ PQ m' X Z t0 mb C b h c sv ish (upI tx ln ch) (ln + 1)) := by
  refine Ok.body [some (.inr (some X)), some (.inl ch)] rfl (Nat.le_of_ble_eq_true rfl) (by decide) ?_
  have hs := p.sv_b
  have hln : 0 ≤ ln := p.1.2.2.2.2.2.2.2.2.2.2.2.1
  have hx0 := p.1.1
  have ht := p.1.2.2.1
  have pt := p.txt (t2 := upI tx ln ch)
  have hx1 := pt.1.1
  have hx2 : upM (upM m (X + 156) (car 60 (upI tx ln ch))) X (obj 5 (xobj X sv ish (ln + 1))) X = obj 5 (xobj X sv ish (ln + 1)) := upM_s
  refine V.ald0 aX5_type_0 ?_
  refine V.getf aX5_type_1 fl_RX5_74 (by first | exact hx2 | exact hx1 | exact hx0) rfl ?_
  refine V.ald0 aX5_type_4 ?_
  refine V.getf aX5_type_5 fl_RX5_23 (by first | exact hx2 | exact hx1 | exact hx0) rfl ?_
  refine V.alenC aX5_type_8 ht (by decide) ?_
  refine V.icmp_lt aX5_type_9 (tgt := 15) (by decide) (fun c9 => ?_) (fun c9 => ?_)
  · refine V.ald0 aX5_type_15 ?_
    refine V.getf aX5_type_16 fl_RX5_23 (by first | exact hx2 | exact hx1 | exact hx0) rfl ?_
    refine V.ald0 aX5_type_19 ?_
    refine V.getf aX5_type_20 fl_RX5_74 (by first | exact hx2 | exact hx1 | exact hx0) rfl ?_
    refine V.ild1 aX5_type_23 ?_
    refine V.cast aX5_type_24 ht (by omega) (by omega) hc.1 hc.2 ?_
    refine V.ald0 aX5_type_25 ?_
    refine V.dup aX5_type_26 ?_
    refine V.getf aX5_type_27 fl_RX5_74 (by first | exact hx2 | exact hx1 | exact hx0) rfl ?_
    refine V.iconst aX5_type_30 (by decide) ?_
    refine V.iadd aX5_type_31 (by omega) ?_
    refine V.putf aX5_type_32 fl_RX5_74 (by first | exact hx2 | exact hx1 | exact hx0) (Nat.le_of_ble_eq_true rfl) rfl rfl ?_
    refine V.ald0 aX5_type_35 ?_
    refine V.getf aX5_type_36 fl_RX5_74 (by first | exact hx2 | exact hx1 | exact hx0) rfl ?_
    refine V.iret aX5_type_39 rfl (by decide) ?_
    exact ⟨rfl, rfl, pt.num ⟨⟨hs.1, Int.le_refl _⟩, Or.inr rfl, by omega, by omega⟩⟩
  · exfalso
    omega
end
