-- a page is replayed into a row
abbrev Cl (c : Int → Int) : Prop := ∀ j, ¬ (0 ≤ j ∧ j < 12) → c j = 0
theorem asFold_b {s : Int → Int} (hE : EntS s) {p a : Int} (ha : s 2 ≤ a) {q : Int → Int} (hq : ∀ j, 0 ≤ j → j < 12 → 0 ≤ q j ∧ q j ≤ 9) {k : Int} (h1 : a ≤ k) (h2 : k ≤ s 3) : ∀ j, 0 ≤ j → j < 12 → 0 ≤ foldI (asF s p) q a k j ∧ foldI (asF s p) q a k j ≤ 9 :=
  foldI_indB (f := asF s p) (z := q) (a := a) (e := s 3) (fun _ c => ∀ j, 0 ≤ j → j < 12 → 0 ≤ c j ∧ c j ≤ 9) hq (fun b c g0 g1 g2 => asF_b hE (by omega) g1 g2) k h1 h2
section
variable {G : GX} {sz : Nat} {m0 : Mem} {B Z t0 ra : Nat} {s : Int → Int} {g : Int → Option Nat} {mm : (Int → Int) → Mem} {ss : (Int → Int) → Int → Int}
theorem ok_replay {p a e0 : Int} {c0 : Int → Int} (hN : Num s) (hE : EntS s) (hC : CellS s) (hR : EntsR Z t0 m0 s g) (hp : 0 ≤ p ∧ p < 6) (ha : -5 ≤ a ∧ a ≤ 30000) (h1 : s 2 ≤ e0) (h2 : e0 ≤ s 3) (hZ : B + 22 ≤ Z) (ht : t0 < B)
    (hs : ∀ c j, (j < 8 + 12 * p ∨ 8 + 12 * p + 12 ≤ j) → ss c j = s j) (hx : ∀ c, Ext m0 (mm c)) (hra : m0 ra = unk ∨ (B ≤ ra ∧ ra < B + 22)) (hK2 : ∀ c c2, Cl c → Cl c2 → upM (BM (mm c) B (ss c) g) ra (iar 12 c2) = BM (mm c2) B (ss c2) g) (hK3 : ∀ c, Cl c → BM (mm c) B (ss c) g ra = iar 12 c) (hrk : B + 6 + 3 * p.toNat ≠ ra) (hc0 : Cl c0) :
    Ok G kX4_replay 3 [.inr (some B), .inl p, .inl a, .inl e0, .inr (some ra)] sz (BM (mm c0) B (ss c0) g) 0 0 (fun ret z m' => ret = none ∧ z = sz ∧ ∃ c' : Int → Int, Cl c' ∧ Eq12 (foldI (asF s p) (cpy s (80 + 12 * p) Zr 0 12) (max a (s 2)) e0) c' ∧ m' = BM (mm c') B (ss c') g) := by
  refine Ok.body [some (.inr (some B)), some (.inl p), some (.inl a), some (.inl e0), some (.inr (some ra)), none, none] rfl (Nat.le_of_ble_eq_true rfl) (by decide) ?_
  obtain ⟨n0, n1, n2, n3, n4⟩ := id hN
  obtain ⟨M, hM⟩ : ∃ M, max a (s 2) = M := ⟨_, rfl⟩
  rw [hM]
  have hm := le_max1 hM
  obtain ⟨q0, hq0⟩ : ∃ q0, q0 = cpy s (80 + 12 * p) Zr 0 12 := ⟨_, rfl⟩
  have hq0b : ∀ j, 0 ≤ j → j < 12 → 0 ≤ q0 j ∧ q0 j ≤ 9 := fun j j0 j1 => by
    rw [hq0, cpy_in (by omega)]
    exact hC _ (by omega) (by omega)
  rw [← hq0]
  have sN : ∀ c, Num (ss c) := fun c => by
    unfold Num
    rw [hs c 2 (by omega), hs c 3 (by omega), hs c 4 (by omega)]
    exact hN
  have loop : ∀ (n : Nat) (k : Int) (c : Int → Int) (x : Option AV), (e0 - k).toNat < n → M ≤ k → (k ≤ e0 ∨ k = M) → Cl c → Eq12 (foldI (asF s p) q0 M k) c → V G kX4_replay (rmM 3 0 0) (QfM G (fun ret z m' => ret = none ∧ z = sz ∧ ∃ c' : Int → Int, Cl c' ∧ Eq12 (foldI (asF s p) q0 M e0) c' ∧ m' = BM (mm c') B (ss c') g) 0 0) 31 [some (.inr (some B)), some (.inl p), some (.inl a), some (.inl e0), some (.inr (some ra)), some (.inl k), x] [] sz (BM (mm c) B (ss c) g) 0 0 := by
    intro n
    induction n with
    | zero => intro k c x h; omega
    | succ n ih =>
      intro k c x hn hk1 hk2 hcl hc
      have e0' := ofE0 (s := s) (k := k)
      have a2 := hs c 2 (by omega)
      have a3 := hs c 3 (by omega)
      refine V.ild5 aX4_replay_31 ?_
      refine V.ild3 aX4_replay_33 ?_
      refine V.icmp_ge aX4_replay_34 (tgt := 75) (by decide) (fun c34 => ?_) (fun c34 => ?_)
      · refine V.ret aX4_replay_75 rfl (by decide) ?_
        refine ⟨rfl, rfl, c, hcl, ?_, rfl⟩
        by_cases q : k = e0
        · rw [← q]; exact hc
        · rw [foldI_0 (by omega)]
          have : k = M := by omega
          rw [this, foldI_0 (Int.le_refl _)] at hc
          exact hc
      · obtain ⟨e, hg, hZe, am, va, nv, vf, ho', hva, hv', hEV⟩ := hR (k - s 2) (by omega) (by omega)
        have ho : BM (mm c) B (ss c) g e = obj 0 (eobj s (170 + 17 * (k - s 2)) am va) := (BM_n (Or.inr (by omega))).trans ((hx c).at ho' obj_nu)
        have hv : BM (mm c) B (ss c) g va = iar nv vf := (BM_n (by omega)).trans ((hx c).at hv' iar_nu)
        have hne : va ≠ ra := by
          intro q
          rcases hra with u | u
          · rw [q, u] at hv'; exact iar_nu hv'.symm
          · omega
        have hcb : ∀ j, 0 ≤ j → j < 12 → 0 ≤ c j ∧ c j ≤ 9 := fun j j0 j1 => by
          rw [hc j j0 j1]
          exact asFold_b hE (by omega) hq0b hk1 (by omega) j j0 j1
        have hok := hE k (by omega) (by omega)
        rw [← a2] at hg
        refine V.ald0 aX4_replay_37 ?_
        refine U.gfS aX4_replay_38 fl_RX4_20 rfl ?_
        refine V.ild5 aX4_replay_41 ?_
        refine call_X1_at aX4_replay_43 gl_RX4_57 (ok_at1 hg (by omega) (by omega) (sN c)) (BM_L) (Nat.le_of_ble_eq_true rfl) (by decide) (goR ?_)
        refine V.ast6 aX4_replay_46 ?_
        refine V.ald6 aX4_replay_48 ?_
        refine V.ifnull aX4_replay_50 (tgt := 69) (by decide) (fun c50 => ?_) (fun v50 c50 => ?_)
        · cases c50
        · refine V.ald6 aX4_replay_53 ?_
          refine V.getf aX4_replay_55 fl_RX4_61 ho rfl ?_
          refine V.ild1 aX4_replay_58 ?_
          refine V.icmp_ne aX4_replay_59 (tgt := 69) (by decide) (fun c59 => ?_) (fun c59 => ?_)
          · refine V.inc5 aX4_replay_69 (by omega) ?_
            refine V.goto aX4_replay_72 (tgt := 31) (by decide) ?_
            refine ih (k + 1) _ _ (by omega) (by omega) (by omega) (by first | exact cl2 | exact hcl) ?_
            rw [foldI_s hk1]
            unfold asF
            first
              | (rw [if_pos (by omega)]
                 intro j j0 j1
                 rw [q1 j j0 j1]
                 exact applyF_congr (f := s) (g := s) (a := atE s k) (b := atE s k) (fun _ _ _ => rfl) hok.2.2.1 hc j j0 j1)
              | (rw [if_neg (by omega)]
                 exact hc)
          · refine V.ald6 aX4_replay_62 ?_
            refine V.ald4 aX4_replay_64 ?_
            refine call_X0_applyTo aX4_replay_66 gl_RX4_108 (ok_applyTo ho hv hEV hok (by omega) (hK3 c hcl) hne hcb) (ho) (Nat.le_of_ble_eq_true rfl) (by decide) (fun r66 z66 m66 h66 => ?_)
            obtain ⟨rfl, rfl, c2, q1, q2, rfl⟩ := h66
            have cl2 : Cl c2 := fun j hj => by rw [q2 j hj]; exact hcl j hj
            refine V.mem (hK2 c c2 hcl cl2).symm ?_
            refine V.inc5 aX4_replay_69 (by omega) ?_
            refine V.goto aX4_replay_72 (tgt := 31) (by decide) ?_
            refine ih (k + 1) _ _ (by omega) (by omega) (by omega) (by first | exact cl2 | exact hcl) ?_
            rw [foldI_s hk1]
            unfold asF
            first
              | (rw [if_pos (by omega)]
                 intro j j0 j1
                 rw [q1 j j0 j1]
                 exact applyF_congr (f := s) (g := s) (a := atE s k) (b := atE s k) (fun _ _ _ => rfl) hok.2.2.1 hc j j0 j1)
              | (rw [if_neg (by omega)]
                 exact hc)
  have b2' := hs c0 2 (by omega)
  refine V.ald0 aX4_replay_0 ?_
  refine U.gfS aX4_replay_1 fl_RX4_11 rfl ?_
  refine V.ild1 aX4_replay_4 ?_
  refine U.aaP aX4_replay_5 (by omega) ?_
  refine U.gfP aX4_replay_6 fl_RX4_98 (by omega) rfl ?_
  refine V.iconst aX4_replay_9 (by decide) ?_
  refine V.ald4 aX4_replay_10 ?_
  refine V.iconst aX4_replay_12 (by decide) ?_
  refine V.bipush aX4_replay_13 (by decide) (by decide) ?_
  refine V.copy aX4_replay_15 gl_RX4_102 gi_RJ10 (BM_k hp) (hK3 c0 hc0) hrk (by decide) (by decide) ?_
  have cl1 : Cl (fun j => if 0 ≤ j ∧ j < 0 + 12 then r12 (ss c0) (80 + 12 * p) (0 + (j - 0)) else c0 j) := fun j hj => by
    dsimp only
    rw [if_neg (by omega)]
    exact hc0 j hj
  refine V.mem (hK2 c0 _ hc0 cl1).symm ?_
  refine V.ild2 aX4_replay_18 ?_
  refine V.ald0 aX4_replay_19 ?_
  refine U.gfS aX4_replay_20 fl_RX4_20 rfl ?_
  refine U.gfL aX4_replay_23 fl_RX4_45 rfl ?_
  rw [hs _ 2 (by omega)]
  refine V.mmax aX4_replay_26 gl_RX4_51 gi_RJ9 (by decide) ?_
  rw [hM]
  refine V.ist5 aX4_replay_29 ?_
  refine loop _ _ _ _ (Nat.lt_succ_self _) (Int.le_refl _) (Or.inr rfl) cl1 (fun j j0 j1 => ?_)
  rw [foldI_0 (Int.le_refl _), hq0, if_pos (by omega), r12_in (by omega), cpy_in (by omega), hs c0 _ (by omega)]
  congr 1
  omega
end
