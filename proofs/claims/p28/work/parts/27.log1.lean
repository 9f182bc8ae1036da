-- entries as objects; the log's readers
abbrev eobj (f : Int → Int) (a am : Int) (va : Nat) : List AV := [.inl (f a), .inl (f (a + 1)), .inl (f (a + 2)), .inl (f (a + 2) + f (a + 3) - 1), .inl am, .inr (some va), .inl (f (a + 4)), .inl (sizeA f a)]
def EntV (f : Int → Int) (a am : Int) (nv : Nat) (vf : Int → Int) : Prop := (f (a + 1) ≠ 0 → f (a + 1) ≠ 4 → am = f (a + 5) ∧ nv = 0) ∧ (f (a + 1) = 0 → nv = 12 ∧ ∀ j, 0 ≤ j → j < 12 → vf j = f (a + 5 + j)) ∧ (f (a + 1) = 4 → ((nv : Int) = f (a + 3) ∧ f (a + 3) ≤ 12) ∧ ∀ j, 0 ≤ j → j < f (a + 3) → vf j = f (a + 5 + j))
def EntR (Z t0 : Nat) (m : Mem) (e : Nat) (f : Int → Int) (a : Int) : Prop := Z ≤ e ∧ ∃ (am : Int) (va nv : Nat) (vf : Int → Int), m e = obj 0 (eobj f a am va) ∧ (Z ≤ va ∨ va = t0) ∧ m va = iar nv vf ∧ EntV f a am nv vf
def EntsR (Z t0 : Nat) (m : Mem) (s : Int → Int) (g : Int → Option Nat) : Prop := ∀ i, 0 ≤ i → i < s 3 - s 2 → ∃ e, g i = some e ∧ EntR Z t0 m e s (170 + 17 * i)
def SlotsR (Z : Nat) (m : Mem) (g : Int → Option Nat) : Prop := ∀ i, 0 ≤ i → i < 100 → ∀ e, g i = some e → Z ≤ e ∧ ∃ fs, m e = obj 0 fs
theorem EntR.obj {Z t0 : Nat} {m : Mem} {e : Nat} {f : Int → Int} {a : Int} {B : Nat} {s : Int → Int} {g : Int → Option Nat} (h : EntR Z t0 m e f a) (hZ : B + 22 ≤ Z) : ∃ am va, BM m B s g e = Sum.inl (0, eobj f a am va) := by
  obtain ⟨h1, am, va, nv, vf, h2, -⟩ := h
  exact ⟨am, va, (BM_n (Or.inr (by omega))).trans h2⟩
theorem EntR.congr {Z t0 : Nat} {m : Mem} {e : Nat} {f h : Int → Int} {a b : Int} (hE : EntR Z t0 m e f a) (c : ∀ j, 0 ≤ j → j < 17 → h (b + j) = f (a + j)) : EntR Z t0 m e h b := by
  obtain ⟨h1, am, va, nv, vf, h2, h3, h4, h5, h6, h7⟩ := hE
  have c0 := c 0 (by decide) (by decide)
  rw [Int.add_zero, Int.add_zero] at c0
  have c5 : ∀ j, 0 ≤ j → j < 12 → h (b + 5 + j) = f (a + 5 + j) := fun j j0 j1 => by
    have := c (5 + j) (by omega) (by omega)
    rw [← Int.add_assoc, ← Int.add_assoc] at this
    exact this
  have cs := sizeA_congr c
  refine ⟨h1, am, va, nv, vf, ?_, h3, h4, ?_, ?_, ?_⟩
  · unfold eobj
    rw [c0, c 1 (by decide) (by decide), c 2 (by decide) (by decide), c 3 (by decide) (by decide), c 4 (by decide) (by decide), cs]
    exact h2
  · rw [c 1 (by decide) (by decide), c 5 (by decide) (by decide)]
    exact h5
  · rw [c 1 (by decide) (by decide)]
    exact fun q => ⟨(h6 q).1, fun j j0 j1 => by rw [c5 j j0 j1]; exact (h6 q).2 j j0 j1⟩
  · rw [c 1 (by decide) (by decide), c 3 (by decide) (by decide)]
    intro q
    refine ⟨(h7 q).1, fun j j0 j1 => ?_⟩
    have hq := (h7 q).1.2
    rw [c5 j j0 (by omega)]
    exact (h7 q).2 j j0 j1
section
variable {G : GX} {sz : Nat} {m : Mem} {B Z : Nat} {s : Int → Int} {g : Int → Option Nat}
theorem ok_next (hN : Num s) : Ok G kX1_next 0 [.inr (some (B + 2))] sz (BM m B s g) 0 0 (PI (s 3) sz (BM m B s g)) := by
  refine Ok.body [some (.inr (some (B + 2)))] rfl (Nat.le_of_ble_eq_true rfl) (by decide) ?_
  obtain ⟨n0, n1, n2, n3, n4⟩ := id hN
  refine V.ald0 aX1_next_0 ?_
  refine U.gfL aX1_next_1 fl_RX1_21 rfl ?_
  refine V.ald0 aX1_next_4 ?_
  refine U.gfL aX1_next_5 fl_RX1_24 rfl ?_
  refine V.iadd aX1_next_8 (by omega) ?_
  refine V.iret aX1_next_9 rfl (by decide) ?_
  exact PI.of (by omega)
theorem ok_holds1 {k : Int} (hN : Num s) : Ok G kX1_holds 1 [.inr (some (B + 2)), .inl k] sz (BM m B s g) 0 0 (PI (b2 (s 2 ≤ k ∧ k < s 3)) sz (BM m B s g)) := by
  refine Ok.body [some (.inr (some (B + 2))), some (.inl k)] rfl (Nat.le_of_ble_eq_true rfl) (by decide) ?_
  obtain ⟨n0, n1, n2, n3, n4⟩ := id hN
  refine V.ild1 aX1_holds_0 ?_
  refine V.ald0 aX1_holds_1 ?_
  refine U.gfL aX1_holds_2 fl_RX1_21 rfl ?_
  refine V.icmp_lt aX1_holds_5 (tgt := 20) (by decide) (fun c5 => ?_) (fun c5 => ?_)
  · refine V.iconst aX1_holds_20 (by decide) ?_
    refine V.zret aX1_holds_21 rfl (by first | decide | exact b2_01 | omega) (by decide) ?_
    exact PI.of (by first | rw [b2_t (by omega)] | rw [b2_f (by omega)])
  · refine V.ild1 aX1_holds_8 ?_
    refine V.ald0 aX1_holds_9 ?_
    refine call_X1_next aX1_holds_10 gl_RX1_30 (ok_next hN) (BM_L) (Nat.le_of_ble_eq_true rfl) (by decide) (goI ?_)
    refine V.icmp_ge aX1_holds_13 (tgt := 20) (by decide) (fun c13 => ?_) (fun c13 => ?_)
    · refine V.iconst aX1_holds_20 (by decide) ?_
      refine V.zret aX1_holds_21 rfl (by first | decide | exact b2_01 | omega) (by decide) ?_
      exact PI.of (by first | rw [b2_t (by omega)] | rw [b2_f (by omega)])
    · refine V.iconst aX1_holds_16 (by decide) ?_
      refine V.goto aX1_holds_17 (tgt := 21) (by decide) ?_
      refine V.zret aX1_holds_21 rfl (by first | decide | exact b2_01 | omega) (by decide) ?_
      exact PI.of (by first | rw [b2_t (by omega)] | rw [b2_f (by omega)])
theorem ok_at1 {k : Int} {r : Option Nat} (hg : g (k - s 2) = r) (h1 : s 2 ≤ k) (h2 : k < s 3) (hN : Num s) : Ok G kX1_at 0 [.inr (some (B + 2)), .inl k] sz (BM m B s g) 0 0 (PR r sz (BM m B s g)) := by
  refine Ok.body [some (.inr (some (B + 2))), some (.inl k), none] rfl (Nat.le_of_ble_eq_true rfl) (by decide) ?_
  obtain ⟨n0, n1, n2, n3, n4⟩ := id hN
  refine V.ild1 aX1_at_0 ?_
  refine V.ald0 aX1_at_1 ?_
  refine U.gfL aX1_at_2 fl_RX1_21 rfl ?_
  refine V.isub aX1_at_5 (by omega) ?_
  refine V.ist2 aX1_at_6 ?_
  refine V.ild1 aX1_at_7 ?_
  refine V.ald0 aX1_at_8 ?_
  refine U.gfL aX1_at_9 fl_RX1_21 rfl ?_
  refine V.icmp_lt aX1_at_12 (tgt := 38) (by decide) (fun c12 => ?_) (fun c12 => ?_)
  · exfalso
    omega
  · refine V.ild2 aX1_at_15 ?_
    refine V.ald0 aX1_at_16 ?_
    refine U.gfL aX1_at_17 fl_RX1_24 rfl ?_
    refine V.icmp_ge aX1_at_20 (tgt := 38) (by decide) (fun c20 => ?_) (fun c20 => ?_)
    · exfalso
      omega
    · refine V.ild2 aX1_at_23 ?_
      refine V.bipush aX1_at_24 (by decide) (by decide) ?_
      refine V.icmp_ge aX1_at_26 (tgt := 38) (by decide) (fun c26 => ?_) (fun c26 => ?_)
      · exfalso
        omega
      · refine V.ald0 aX1_at_29 ?_
        refine U.gfL aX1_at_30 fl_RX1_11 rfl ?_
        refine V.ild2 aX1_at_33 ?_
        refine U.aaE aX1_at_34 (by omega) ?_
        refine V.goto aX1_at_35 (tgt := 39) (by decide) ?_
        refine V.aret aX1_at_39 rfl (Or.inl ⟨_, rfl⟩) (by decide) ?_
        exact ⟨by rw [hg], rfl, rfl⟩
theorem ok_at0 {k : Int} (h : ¬ (s 2 ≤ k ∧ k < s 3)) (hk : -100000 ≤ k ∧ k ≤ 100000) (hN : Num s) : Ok G kX1_at 0 [.inr (some (B + 2)), .inl k] sz (BM m B s g) 0 0 (PR none sz (BM m B s g)) := by
  refine Ok.body [some (.inr (some (B + 2))), some (.inl k), none] rfl (Nat.le_of_ble_eq_true rfl) (by decide) ?_
  obtain ⟨n0, n1, n2, n3, n4⟩ := id hN
  refine V.ild1 aX1_at_0 ?_
  refine V.ald0 aX1_at_1 ?_
  refine U.gfL aX1_at_2 fl_RX1_21 rfl ?_
  refine V.isub aX1_at_5 (by omega) ?_
  refine V.ist2 aX1_at_6 ?_
  refine V.ild1 aX1_at_7 ?_
  refine V.ald0 aX1_at_8 ?_
  refine U.gfL aX1_at_9 fl_RX1_21 rfl ?_
  refine V.icmp_lt aX1_at_12 (tgt := 38) (by decide) (fun c12 => ?_) (fun c12 => ?_)
  · refine V.null aX1_at_38 ?_
    refine V.aret aX1_at_39 rfl (Or.inl ⟨_, rfl⟩) (by decide) ?_
    exact ⟨rfl, rfl, rfl⟩
  · refine V.ild2 aX1_at_15 ?_
    refine V.ald0 aX1_at_16 ?_
    refine U.gfL aX1_at_17 fl_RX1_24 rfl ?_
    refine V.icmp_ge aX1_at_20 (tgt := 38) (by decide) (fun c20 => ?_) (fun c20 => ?_)
    · refine V.null aX1_at_38 ?_
      refine V.aret aX1_at_39 rfl (Or.inl ⟨_, rfl⟩) (by decide) ?_
      exact ⟨rfl, rfl, rfl⟩
    · exfalso
      omega
end
