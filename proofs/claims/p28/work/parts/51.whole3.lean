-- the oldest state is forgotten
def rotH (h : Int → Nat × BS) : Int → Nat × BS := fun i => if 0 ≤ i ∧ i < 4 then h (i + 1) else h 0
theorem rotH_i {h : Int → Nat × BS} {i : Int} (q : 0 ≤ i ∧ i < 4) : rotH h i = h (i + 1) := if_pos q
theorem rotH_4 {h : Int → Nat × BS} : rotH h 4 = h 0 := if_neg (by decide)
section
variable {G : GX} {sz : Nat} {m m1 mb : Mem} {X Z t0 : Nat} {C : Int} {b c : BS} {h : Int → Nat × BS} {sv ish ln : Int} {tx : Int → Int}
theorem PQ0.rot (p : PQ0 m X Z t0 mb b h c sv ish tx ln) : PQ0 (upM m (X + 23) (rar 4 5 (harr (rotH h)))) X Z t0 mb b (rotH h) c sv ish tx ln := by
  obtain ⟨p1, p2, p3, ⟨h0, p4⟩, p5, p6, p7, p8, p9, p10⟩ := p
  have e : ExtA (X + 23) m (upM m (X + 23) (rar 4 5 (harr (rotH h)))) := fun a ha => upM_n ha
  have hr : ∀ i, 0 ≤ i → i < 5 → ∃ k, 0 ≤ k ∧ k < 5 ∧ rotH h i = h k ∧ k = (if i < 4 then i + 1 else 0) := fun i i0 i1 => by
    by_cases q : i < 4
    · exact ⟨i + 1, by omega, by omega, rotH_i ⟨i0, q⟩, by rw [if_pos q]⟩
    · exact ⟨0, by omega, by omega, by rw [show i = 4 by omega]; exact rotH_4, by rw [if_neg q]⟩
  refine ⟨?_, upM_s, ?_, ⟨h0, ?_⟩, p5.extA e (by omega) (by omega), p6.extA e (by omega) (by omega), fun i i0 i1 => ?_, fun i i0 i1 => ?_, p9, p10.1, p10.2.1, p10.2.2.1, p10.2.2.2.1, p10.2.2.2.2.extA e (by omega)⟩
  · rw [e _ (by omega)]; exact p1
  · rw [e _ (by omega)]; exact p3
  · rw [e _ (by omega)]; exact p4
  · obtain ⟨k, k0, k1, hk, -⟩ := hr i i0 i1
    rw [hk]
    have := (p8 k k0 k1).1
    exact (p7 k k0 k1).extA e (by omega) (by omega)
  · obtain ⟨k, k0, k1, hk, ek⟩ := hr i i0 i1
    rw [hk]
    refine ⟨(p8 k k0 k1).1, fun j j0 j1 jn => ?_⟩
    obtain ⟨l, l0, l1, hl, el⟩ := hr j j0 j1
    rw [hl]
    refine (p8 k k0 k1).2 l l0 l1 ?_
    rw [ek, el]
    split <;> split <;> omega
theorem ok_forget (p : PQ0 m X Z t0 mb b h c sv ish tx ln) : Ok G kX5_forgetOldest 0 [.inr (some X)] sz m 0 0 (PV sz (upM m (X + 23) (rar 4 5 (harr (rotH h))))) := by
  refine Ok.body [some (.inr (some X)), none, none] rfl (Nat.le_of_ble_eq_true rfl) (by decide) ?_
  obtain ⟨p1, p2, p3, p4, p5, p6, p7, p8, p9, p10, p11, p12⟩ := id p
  have hx : ∀ f, upM m (X + 23) (rar 4 5 f) X = obj 5 (xobj X sv ish ln) := fun f => (upM_n (by omega)).trans p1
  have hst : ∀ f i, 0 ≤ i → i < 5 → ∃ fs, upM m (X + 23) (rar 4 5 f) (h i).1 = obj 4 fs := fun f i i0 i1 => by
    have := (p8 i i0 i1).1
    exact ⟨_, (upM_n (by omega)).trans (p7 i i0 i1).1.1⟩
  have hin : ∀ i, 0 ≤ i → i < 5 → harr h i = some (h i).1 := fun i i0 i1 => if_pos ⟨i0, i1⟩
  have loop : ∀ (n : Nat) (k : Int), (5 - k).toNat < n → 1 ≤ k → k ≤ 5 → V G kX5_forgetOldest (rmM 0 0 0) (QfM G (PV sz (upM m (X + 23) (rar 4 5 (harr (rotH h))))) 0 0) 9 [some (.inr (some X)), some (.inr (some (h 0).1)), some (.inl k)] [] sz (upM m (X + 23) (rar 4 5 (fun i => if 0 ≤ i ∧ i < k - 1 then harr h (i + 1) else harr h i))) 0 0 := by
    intro n
    induction n with
    | zero => intro k hh; omega
    | succ n ih =>
      intro k hn hk1 hk2
      refine V.ild2 aX5_forgetOldest_9 ?_
      refine V.ald0 aX5_forgetOldest_10 ?_
      refine V.getf aX5_forgetOldest_11 fl_RX5_16 (hx _) rfl ?_
      refine V.alenR aX5_forgetOldest_14 upM_s (by decide) ?_
      refine V.icmp_ge aX5_forgetOldest_15 (tgt := 38) (by decide) (fun c15 => ?_) (fun c15 => ?_)
      · refine V.ald0 aX5_forgetOldest_38 ?_
        refine V.getf aX5_forgetOldest_39 fl_RX5_16 (hx _) rfl ?_
        refine V.ald0 aX5_forgetOldest_42 ?_
        refine V.getf aX5_forgetOldest_43 fl_RX5_16 (hx _) rfl ?_
        refine V.alenR aX5_forgetOldest_46 upM_s (by decide) ?_
        refine V.iconst aX5_forgetOldest_47 (by decide) ?_
        refine V.isub aX5_forgetOldest_48 (by omega) ?_
        refine V.ald1 aX5_forgetOldest_49 ?_
        refine V.aast aX5_forgetOldest_50 upM_s (by decide) (by decide) (by decide) (fun v hv => by cases hv; exact hst _ 0 (by decide) (by decide)) ?_
        rw [upM_upM]
        refine V.ret aX5_forgetOldest_51 rfl (by decide) ?_
        refine PV.of ?_
        congr 2
        funext i
        have ek : k = 5 := by omega
        subst ek
        show upI _ (4 : Int) _ i = harr (rotH h) i
        by_cases q : i = 4
        · subst q
          rw [upI_s]
          rfl
        · rw [upI_n q]
          unfold harr
          by_cases q2 : 0 ≤ i ∧ i < 4
          · rw [if_pos (by omega), if_pos (by omega), if_pos (by omega), rotH_i q2]
          · rw [if_neg (by omega), if_neg (by omega), if_neg (by omega)]
      · refine V.ald0 aX5_forgetOldest_18 ?_
        refine V.getf aX5_forgetOldest_19 fl_RX5_16 (hx _) rfl ?_
        refine V.ild2 aX5_forgetOldest_22 ?_
        refine V.iconst aX5_forgetOldest_23 (by decide) ?_
        refine V.isub aX5_forgetOldest_24 (by omega) ?_
        refine V.ald0 aX5_forgetOldest_25 ?_
        refine V.getf aX5_forgetOldest_26 fl_RX5_16 (hx _) rfl ?_
        refine V.ild2 aX5_forgetOldest_29 ?_
        refine V.aald aX5_forgetOldest_30 upM_s (by omega) (by omega) ?_
        rw [if_neg (by omega), hin k (by omega) (by omega)]
        refine V.aast aX5_forgetOldest_31 upM_s (by decide) (by omega) (by omega) (fun v hv => by cases hv; exact hst _ k (by omega) (by omega)) ?_
        rw [upM_upM]
        refine V.inc2 aX5_forgetOldest_32 (by omega) ?_
        refine V.goto aX5_forgetOldest_35 (tgt := 9) (by decide) ?_
        refine V.mem ?_ (ih (k + 1) (by omega) (by omega) (by omega))
        congr 2
        funext i
        by_cases q : i = k - 1
        · subst q
          rw [upI_s, if_pos (by omega), show k - 1 + 1 = k by omega, hin k (by omega) (by omega)]
        · rw [upI_n q]
          by_cases q2 : 0 ≤ i ∧ i < k - 1
          · rw [if_pos q2, if_pos (by omega)]
          · rw [if_neg q2, if_neg (by omega)]
  refine V.mem (m2 := upM m (X + 23) (rar 4 5 (harr h))) (upM_self p2) ?_
  refine V.ald0 aX5_forgetOldest_0 ?_
  refine V.getf aX5_forgetOldest_1 fl_RX5_16 (hx _) rfl ?_
  refine V.iconst aX5_forgetOldest_4 (by decide) ?_
  refine V.aald aX5_forgetOldest_5 upM_s (by decide) (by decide) ?_
  rw [hin 0 (by decide) (by decide)]
  refine V.ast1 aX5_forgetOldest_6 ?_
  refine V.iconst aX5_forgetOldest_7 (by decide) ?_
  refine V.ist2 aX5_forgetOldest_8 ?_
  refine V.mem ?_ (loop _ 1 (Nat.lt_succ_self _) (by decide) (by decide))
  congr 2
  funext i
  rw [if_neg (by omega)]
theorem ok_end3 {ans : Int} (p : PQ m X Z t0 mb C b h c sv ish tx ln) (u : Use Z t0 m C (h sv).2) (ha : 0 ≤ ans) (hs : sv = 4) : Ok G kX5_end 3 [.inr (some X), .inl ans] sz m 0 0 (fun ret z m' => ret = some (.inl ans) ∧ z = sz ∧ PQ m' X Z t0 mb C b (rotH h) c 4 ish tx ln) := by
  refine Ok.body [some (.inr (some X)), some (.inl ans)] rfl (Nat.le_of_ble_eq_true rfl) (by decide) ?_
  obtain ⟨p0, u1, u2, u3⟩ := id p
  obtain ⟨p1, p2, p3, p4, p5, p6, p7, p8, p9, p10, p11, p12⟩ := id p0
  have hx := p1
  subst hs
  refine V.ild1 aX5_end_0 ?_
  refine V.if_ge aX5_end_1 (tgt := 23) (by decide) (fun c1 => ?_) (fun c1 => ?_)
  · refine V.ald0 aX5_end_23 ?_
    refine V.getf aX5_end_24 fl_RX5_121 hx rfl ?_
    refine V.iconst aX5_end_27 (by decide) ?_
    refine V.icmp_ge aX5_end_28 (tgt := 44) (by decide) (fun c28 => ?_) (fun c28 => ?_)
    · refine V.ald0 aX5_end_44 ?_
      refine call_X5_forgetOldest aX5_end_45 gl_RX5_235 (ok_forget p0) (p1) (Nat.le_of_ble_eq_true rfl) (by decide) (goV ?_)
      refine V.ild1 aX5_end_48 ?_
      refine V.iret aX5_end_49 rfl (by decide) ?_
      have e : ExtA (X + 23) m (upM m (X + 23) (rar 4 5 (harr (rotH h)))) := fun a ha => upM_n ha
      refine ⟨rfl, rfl, p0.rot, u1.extA e (by omega), fun q => (u2 q).extA e (by omega), fun i i0 i1 => ?_⟩
      rw [rotH_i ⟨i0, i1⟩]
      by_cases q : i = 3
      · subst q; exact u.extA e (by omega)
      · exact (u3 (i + 1) (by omega) (by omega)).extA e (by omega)
    · exact absurd c28 (by decide)
  · exfalso
    omega
end
