-- what is asked: a change, or a renewal; the row behind it
abbrev Ext (m m1 : Mem) : Prop := ∀ a, m a ≠ unk → m1 a = m a
theorem Ext.rf {m : Mem} : Ext m m := fun _ _ => rfl
theorem Ext.tr {m m1 m2 : Mem} (h : Ext m m1) (h2 : Ext m1 m2) : Ext m m2 := fun a ha => by
  have := h a ha
  rw [h2 a (by rw [this]; exact ha), this]
theorem Ext.new {m : Mem} {z : Nat} {c : AC} (h : m z = unk) : Ext m (upM m z c) := fun a ha => upM_n (fun q => ha (by rw [q]; exact h))
theorem obj_nu {ci : Nat} {fs : List AV} : obj ci fs ≠ unk := fun h => by cases h
theorem iar_nu {n : Nat} {f : Int → Int} : iar n f ≠ unk := fun h => by cases h
theorem Ext.at {m m1 : Mem} (h : Ext m m1) {a : Nat} {c : AC} (ha : m a = c) (hc : c ≠ unk) : m1 a = c := by
  rw [h a (by rw [ha]; exact hc), ha]
theorem EntR.ext {Z t0 : Nat} {m m1 : Mem} {e : Nat} {f : Int → Int} {a : Int} (h : EntR Z t0 m e f a) (x : Ext m m1) : EntR Z t0 m1 e f a := by
  obtain ⟨h1, am, va, nv, vf, h2, h3, h4, h5⟩ := h
  exact ⟨h1, am, va, nv, vf, x.at h2 obj_nu, h3, x.at h4 iar_nu, h5⟩
theorem EntsR.ext {Z t0 : Nat} {m m1 : Mem} {s : Int → Int} {g : Int → Option Nat} (h : EntsR Z t0 m s g) (x : Ext m m1) : EntsR Z t0 m1 s g := fun i i0 i1 => by
  obtain ⟨e, hg, he⟩ := h i i0 i1
  exact ⟨e, hg, he.ext x⟩
theorem SlotsR.ext {Z : Nat} {m m1 : Mem} {g : Int → Option Nat} (h : SlotsR Z m g) (x : Ext m m1) : SlotsR Z m1 g := fun i i0 i1 e he => by
  obtain ⟨h1, fs, h2⟩ := h i i0 i1 e he
  exact ⟨h1, fs, x.at h2 obj_nu⟩
def AskR (Z t0 : Nat) (m : Mem) (e : Nat) (w : Int → Int) : Prop := (w 1 ≠ 0 ∧ entOK w 0 ∧ EntR Z t0 m e w 0) ∨ (w 1 = 0 ∧ (0 ≤ w 0 ∧ w 0 < 6) ∧ Z ≤ e ∧ m e = obj 0 (fobj (w 0) 0 0 11 0 t0 0 4) ∧ ∃ h0, m t0 = iar 0 h0)
theorem AskR.ext {Z t0 : Nat} {m m1 : Mem} {e : Nat} {w : Int → Int} (h : AskR Z t0 m e w) (x : Ext m m1) : AskR Z t0 m1 e w := by
  rcases h with ⟨h1, h2, h3⟩ | ⟨h1, h2, h3, h4, h0, h5⟩
  · exact Or.inl ⟨h1, h2, h3.ext x⟩
  · exact Or.inr ⟨h1, h2, h3, x.at h4 obj_nu, h0, x.at h5 iar_nu⟩
theorem AskR.pg {Z t0 : Nat} {m : Mem} {e : Nat} {w : Int → Int} (h : AskR Z t0 m e w) : 0 ≤ w 0 ∧ w 0 < 6 := by
  rcases h with ⟨-, h2, -⟩ | ⟨-, h2, -⟩
  · exact h2.1
  · exact h2
theorem AskR.ok {Z t0 : Nat} {m : Mem} {e : Nat} {w : Int → Int} (h : AskR Z t0 m e w) : w 1 ≠ 0 → entOK w 0 := by
  rcases h with ⟨-, h2, -⟩ | ⟨h1, -⟩
  · exact fun _ => h2
  · exact fun q => absurd h1 q
-- the fields that are read of it
theorem AskR.obj {Z t0 : Nat} {m : Mem} {e : Nat} {w : Int → Int} (h : AskR Z t0 m e w) : ∃ (fr to am : Int) (va : Nat) (dm size : Int), m e = Sum.inl (0, fobj (w 0) (w 1) fr to am va dm size) ∧ Z ≤ e := by
  rcases h with ⟨h1, h2, h3, am, va, nv, vf, h4, -⟩ | ⟨h1, h2, h3, h4, -⟩
  · exact ⟨_, _, _, _, _, _, h4, h3⟩
  · exact ⟨_, _, _, _, _, _, by rw [h1]; exact h4, h3⟩
section
variable {G : GX} {sz : Nat} {m : Mem} {B Z t0 : Nat} {s : Int → Int} {g : Int → Option Nat} {C : Int}
theorem ok_valueFor0 {e va : Nat} {vf : Int → Int} {p j old : Int} (ho : m e = obj 0 (fobj p 0 0 11 0 va 0 4)) (hv : m va = iar 0 vf) (hj : 0 ≤ j ∧ j ≤ 11) : Ok G kX0_valueFor 0 [.inr (some e), .inl j, .inl old] sz m 0 0 (PI old sz m) := by
  refine Ok.body [some (.inr (some e)), some (.inl j), some (.inl old), none] rfl (Nat.le_of_ble_eq_true rfl) (by decide) ?_
  refine V.ald0 aX0_valueFor_0 ?_
  refine V.getf aX0_valueFor_1 fl_RX0_15 ho rfl ?_
  refine V.iconst aX0_valueFor_4 (by decide) ?_
  refine V.icmp_ne aX0_valueFor_5 (tgt := 13) (by decide) (fun c5 => ?_) (fun c5 => ?_)
  · refine V.ald0 aX0_valueFor_13 ?_
    refine V.getf aX0_valueFor_14 fl_RX0_15 ho rfl ?_
    refine V.iconst aX0_valueFor_17 (by decide) ?_
    refine V.icmp_ne aX0_valueFor_18 (tgt := 31) (by decide) (fun c18 => ?_) (fun c18 => ?_)
    · refine V.ild1 aX0_valueFor_31 ?_
      refine V.ald0 aX0_valueFor_32 ?_
      refine V.getf aX0_valueFor_33 fl_RX0_18 ho rfl ?_
      refine V.isub aX0_valueFor_36 (by omega) ?_
      refine V.ist3 aX0_valueFor_37 ?_
      refine V.ild3 aX0_valueFor_38 ?_
      refine V.if_lt aX0_valueFor_39 (tgt := 60) (by decide) (fun c39 => ?_) (fun c39 => ?_)
      · refine V.ild2 aX0_valueFor_60 ?_
        refine V.iret aX0_valueFor_61 rfl (by decide) ?_
        exact PI.of rfl
      · refine V.ild3 aX0_valueFor_42 ?_
        refine V.ald0 aX0_valueFor_43 ?_
        refine V.getf aX0_valueFor_44 fl_RX0_27 ho rfl ?_
        refine V.alen aX0_valueFor_47 hv (by omega) ?_
        refine V.icmp_ge aX0_valueFor_48 (tgt := 60) (by decide) (fun c48 => ?_) (fun c48 => ?_)
        · refine V.ild2 aX0_valueFor_60 ?_
          refine V.iret aX0_valueFor_61 rfl (by decide) ?_
          exact PI.of rfl
        · exfalso
          omega
    · exact absurd c18 (by decide)
  · exact absurd c5 (by decide)
theorem ok_applyTo0 {e r va : Nat} {c vf : Int → Int} {p : Int} (ho : m e = obj 0 (fobj p 0 0 11 0 va 0 4)) (hv : m va = iar 0 vf) (hr : m r = iar 12 c) : Ok G kX0_applyTo 2 [.inr (some e), .inr (some r)] sz m 0 0 (PV sz m) := by
  refine Ok.body [some (.inr (some e)), some (.inr (some r)), none] rfl (Nat.le_of_ble_eq_true rfl) (by decide) ?_
  have hne : e ≠ r := by
    intro q
    rw [q, hr] at ho
    cases ho
  have hvr : va ≠ r := by
    intro q
    rw [q, hr] at hv
    have : (12 : Nat) = 0 := congrArg (fun x : AC => match x with | .inr (.inl (_, n, _)) => n | _ => 0) hv
    cases this
  have ho2 : ∀ x, upM m r x e = obj 0 (fobj p 0 0 11 0 va 0 4) := fun x => (upM_n hne).trans ho
  have hv2 : ∀ x, upM m r x va = iar 0 vf := fun x => (upM_n hvr).trans hv
  have loop : ∀ (n : Nat) (k : Int), (12 - k).toNat < n → 0 ≤ k → k ≤ 12 → V G kX0_applyTo (rmM 2 0 0) (QfM G (PV sz m) 0 0) 19 [some (.inr (some e)), some (.inr (some r)), some (.inl k)] [] sz (upM m r (iar 12 c)) 0 0 := by
    intro n
    induction n with
    | zero => intro k hh; omega
    | succ n ih =>
      intro k hn hk1 hk2
      refine V.ild2 aX0_applyTo_19 ?_
      refine V.if_lt aX0_applyTo_20 (tgt := 54) (by decide) (fun c20 => ?_) (fun c20 => ?_)
      · exfalso
        omega
      · refine V.ild2 aX0_applyTo_23 ?_
        refine V.ald0 aX0_applyTo_24 ?_
        refine V.getf aX0_applyTo_25 fl_RX0_21 (ho2 _) rfl ?_
        refine V.icmp_gt aX0_applyTo_28 (tgt := 54) (by decide) (fun c28 => ?_) (fun c28 => ?_)
        · refine V.ret aX0_applyTo_54 rfl (by decide) ?_
          exact PV.of (upM_self hr)
        · refine V.ild2 aX0_applyTo_31 ?_
          refine V.ald1 aX0_applyTo_32 ?_
          refine V.alen aX0_applyTo_33 upM_s (by omega) ?_
          refine V.icmp_ge aX0_applyTo_34 (tgt := 54) (by decide) (fun c34 => ?_) (fun c34 => ?_)
          · exfalso
            omega
          · refine V.ald1 aX0_applyTo_37 ?_
            refine V.ild2 aX0_applyTo_38 ?_
            refine V.ald0 aX0_applyTo_39 ?_
            refine V.ild2 aX0_applyTo_40 ?_
            refine V.ald1 aX0_applyTo_41 ?_
            refine V.ild2 aX0_applyTo_42 ?_
            refine V.iald aX0_applyTo_43 upM_s (by omega) (by omega) ?_
            refine call_X0_valueFor aX0_applyTo_44 gl_RX0_56 (ok_valueFor0 (ho2 _) (hv2 _) (by omega)) ((ho2 _)) (Nat.le_of_ble_eq_true rfl) (by decide) (goI ?_)
            refine V.iast aX0_applyTo_47 upM_s (by omega) (by omega) ?_
            refine V.inc2 aX0_applyTo_48 (by omega) ?_
            refine V.goto aX0_applyTo_51 (tgt := 19) (by decide) ?_
            refine V.mem ?_ (ih (k + 1) (by omega) (by omega) (by omega))
            rw [upM_upM]
            congr 2
            funext j
            by_cases q : j = k
            · subst q; rw [upI_s]
            · rw [upI_n q]
  refine V.ald0 aX0_applyTo_0 ?_
  refine V.getf aX0_applyTo_1 fl_RX0_15 ho rfl ?_
  refine V.iconst aX0_applyTo_4 (by decide) ?_
  refine V.icmp_ne aX0_applyTo_5 (tgt := 14) (by decide) (fun c5 => ?_) (fun c5 => ?_)
  · refine V.ald0 aX0_applyTo_14 ?_
    refine V.getf aX0_applyTo_15 fl_RX0_18 ho rfl ?_
    refine V.ist2 aX0_applyTo_18 ?_
    exact V.mem (upM_self hr) (loop _ 0 (Nat.lt_succ_self _) (by decide) (by decide))
  · exact absurd c5 (by decide)
theorem ok_row4 {e : Nat} {w : Int → Int} (hA : AskR Z t0 m e w) (hC : CellS s) (hZ : B + 22 ≤ Z ∧ Z ≤ sz) (ht : t0 < B) : Ok G kX4_rowBehind 3 [.inr (some B), .inr (some e)] sz (BM m B s g) 1 12 (fun ret z m' => ret = some (.inr (some sz)) ∧ z = sz + 1 ∧ ∃ c' : Int → Int, Eq12 (doCl s Zr w) c' ∧ m' = (BM (upM m sz (iar 12 c')) B s g)) := by
  refine Ok.body [some (.inr (some B)), some (.inr (some e)), none] rfl (Nat.le_of_ble_eq_true rfl) (by decide) ?_
  refine V.knowS (fun hu _ => ?_)
  have hun : ∀ a, sz ≤ a → m a = unk := fun a ha => by
    have := hu a ha
    rw [BM_n (Or.inr (by omega))] at this
    exact this
  have hpg := hA.pg
  obtain ⟨fr, to, am, va, dm, size, ho', hZe⟩ := hA.obj
  have ho : (BM m B s g) e = obj 0 (fobj (w 0) (w 1) fr to am va dm size) := (BM_n (Or.inr (by omega))).trans ho'
  have hx : Ext m (upM m sz (iar 12 (r12 s (8 + 12 * w 0)))) := Ext.new (hun sz (Nat.le_refl _))
  have hA2 := hA.ext hx
  have hr : (BM (upM m sz (iar 12 (r12 s (8 + 12 * w 0)))) B s g) sz = iar 12 (r12 s (8 + 12 * w 0)) := (BM_n (Or.inr (by omega))).trans upM_s
  have hun2 : sz ≠ t0 := by omega
  refine V.ald0 aX4_rowBehind_0 ?_
  refine U.gfS aX4_rowBehind_1 fl_RX4_11 rfl ?_
  refine V.ald1 aX4_rowBehind_4 ?_
  refine V.getf aX4_rowBehind_5 fl_RX4_61 ho rfl ?_
  refine U.aaP aX4_rowBehind_8 (by omega) ?_
  refine U.gfP aX4_rowBehind_9 fl_RX4_122 (by omega) rfl ?_
  refine V.clone aX4_rowBehind_12 gl_RX4_125 (BM_c hpg) (by decide) (by decide) ?_
  rw [BM_new (by omega)]
  refine V.castI aX4_rowBehind_15 gk_RX4_126 hr (by decide) ?_
  refine V.ast2 aX4_rowBehind_18 ?_
  refine V.ald1 aX4_rowBehind_19 ?_
  refine V.ald2 aX4_rowBehind_20 ?_
  rcases hA2 with ⟨h1, h2, h3, am2, va2, nv2, vf2, h4, h5, h6, h7⟩ | ⟨h1, h2, h3, h4, h0, h5⟩
  · have hne : va2 ≠ sz := by
      intro q
      rcases hA with ⟨-, -, -, am3, va3, nv3, vf3, k4, k5, k6, -⟩ | ⟨k1, -⟩
      · have q2 : am3 = am2 ∧ va3 = va2 := by
          have := hx.at k4 obj_nu
          rw [h4] at this
          injection this with this
          injection this with _ this
          simp at this
          exact ⟨this.1.symm, this.2.symm⟩
        rw [q2.2, q, hun sz (Nat.le_refl _)] at k6
        exact iar_nu k6.symm
      · exact absurd k1 h1
    refine call_X0_applyTo aX4_rowBehind_21 gl_RX4_108 (ok_applyTo ((BM_n (Or.inr (by omega))).trans h4) ((BM_n (by omega)).trans h6) h7 h2 (by decide) hr hne (fun j j0 j1 => by rw [r12_in ⟨j0, j1⟩]; exact hC _ (by omega) (by omega))) ((BM_n (Or.inr (by omega))).trans h4) (Nat.le_of_ble_eq_true rfl) (by decide) (fun r21 z21 m21 p21 => ?_)
    obtain ⟨rfl, rfl, c', e1, e2, rfl⟩ := p21
    rw [BM_new (by omega), upM_upM]
    refine V.ald2 aX4_rowBehind_24 ?_
    refine V.aret aX4_rowBehind_25 rfl (Or.inr ⟨_, rfl⟩) (by decide) ?_
    refine ⟨rfl, rfl, c', ?_, rfl⟩
    unfold doCl
    rw [if_neg h1]
    intro j j0 j1
    rw [e1 j j0 j1]
    unfold chCl
    exact applyF_congr (f := w) (g := w) (a := 0) (b := 0) (fun _ _ _ => rfl) h2.2.2.1 (c := cpy s (8 + 12 * w 0) Zr 0 12) (d := r12 s (8 + 12 * w 0)) (fun i i0 i1 => by rw [r12_in ⟨i0, i1⟩, cpy_in (by omega)]; congr 1; omega) j j0 j1
  · refine call_X0_applyTo aX4_rowBehind_21 gl_RX4_108 (ok_applyTo0 ((BM_n (Or.inr (by omega))).trans h4) (va := t0) ((BM_n (by omega)).trans h5) hr) ((BM_n (Or.inr (by omega))).trans h4) (Nat.le_of_ble_eq_true rfl) (by decide) (goV ?_)
    refine V.ald2 aX4_rowBehind_24 ?_
    refine V.aret aX4_rowBehind_25 rfl (Or.inr ⟨_, rfl⟩) (by decide) ?_
    refine ⟨rfl, rfl, _, ?_, rfl⟩
    unfold doCl renCl
    rw [if_pos h1]
    intro j j0 j1
    rw [r12_in ⟨j0, j1⟩, cpy_in (by omega)]
    congr 1
    omega
end
