-- the reference's methods: contracts (part four): restoring, dropping, logging, recording
def CellS (s : Int → Int) : Prop := ∀ i, 8 ≤ i → i < 152 → 0 ≤ s i ∧ s i ≤ 9
theorem Inv.C {B : Int} {s : Int → Int} (h : Inv B s) : CellS s := fun _ h1 h2 => h.cell h1 h2
theorem applyF_b {f : Int → Int} {a : Int} {cl : Int → Int} (h3 : entOK f a) (hc : ∀ k, 0 ≤ k → k < 12 → 0 ≤ cl k ∧ cl k ≤ 9) : ∀ k, 0 ≤ k → k < 12 → 0 ≤ applyF f a cl k ∧ applyF f a cl k ≤ 9 := by
  obtain ⟨-, g1, g2, -, g4, g5, g6, g7, g8⟩ := id h3
  refine foldI_indB (f := appF f a cl) (a := 0) (e := 12) (fun _ c => ∀ k, 0 ≤ k → k < 12 → 0 ≤ c k ∧ c k ≤ 9) hc (fun k c hk0 hk1 hcc => ?_) 12 (by decide) (by decide)
  have up : ∀ (i v : Int), 0 ≤ v → v ≤ 9 → ∀ j, 0 ≤ j → j < 12 → 0 ≤ upI c i v j ∧ upI c i v j ≤ 9 := by
    intro i v v0 v1 j j0 j1
    by_cases hj : j = i
    · subst hj
      rw [upI_s]
      exact ⟨v0, v1⟩
    · rw [upI_n hj]
      exact hcc j j0 j1
  unfold appF
  split
  · rename_i q
    exact up _ _ (g4 k hk0 hk1) (g5 (by omega) k hk0 hk1)
  · split
    · exact up _ _ (hc k hk0 hk1).1 (hc k hk0 hk1).2
    · rename_i q1 q2
      split
      · rename_i q
        have v0 := g4 0 (by decide) (by decide)
        have v1 := g5 q2 0 (by decide) (by decide)
        rw [Int.add_zero] at v0 v1
        refine up _ _ ?_ ?_
        · split
          · exact v0
          · split
            · exact Int.emod_nonneg _ (by decide)
            · have := g4 (k - f (a + 2)) (by omega) (by omega)
              rw [show a + 5 + k - f (a + 2) = a + 5 + (k - f (a + 2)) by omega]
              exact this
        · split
          · exact v1
          · split
            · have := Int.emod_lt_of_pos (cl k + f (a + 5)) (show (0 : Int) < 10 by decide)
              omega
            · have := g5 q2 (k - f (a + 2)) (by omega) (by omega)
              rw [show a + 5 + k - f (a + 2) = a + 5 + (k - f (a + 2)) by omega]
              exact this
      · exact hcc
theorem hold_b {s : Int → Int} (hC : CellS s) {part p : Int} (h0 : part = 8 ∨ part = 80) (hp : 0 ≤ p ∧ p < 6) (cl : Int → Int) : ∀ k, 0 ≤ k → k < 12 → 0 ≤ cpy s (part + 12 * p) cl 0 12 k ∧ cpy s (part + 12 * p) cl 0 12 k ≤ 9 := by
  intro k k0 k1
  rw [cpy_in (by omega)]
  exact hC _ (by omega) (by omega)
def restQ (s : Int → Int) (p e : Int) (cl bf : Int → Int) : (Int → Int) × (Int → Int) := foldI (restF s p e) (cpy s (80 + 12 * p) cl 0 12, bf) (s 2) e
theorem restQ_b {s : Int → Int} (hE : EntS s) (hC : CellS s) {p e : Int} (hp : 0 ≤ p ∧ p < 6) (he : e ≤ s 3) (cl bf : Int → Int) {k : Int} (h1 : s 2 ≤ k) (h2 : k ≤ e) : ∀ j, 0 ≤ j → j < 12 → 0 ≤ (foldI (restF s p e) (cpy s (80 + 12 * p) cl 0 12, bf) (s 2) k).1 j ∧ (foldI (restF s p e) (cpy s (80 + 12 * p) cl 0 12, bf) (s 2) k).1 j ≤ 9 := by
  refine foldI_indB (f := restF s p e) (a := s 2) (e := e) (fun _ q => ∀ j, 0 ≤ j → j < 12 → 0 ≤ q.1 j ∧ q.1 j ≤ 9) (hold_b hC (Or.inr rfl) hp cl) (fun k q g1 g2 g3 => ?_) k h1 h2
  unfold restF
  split
  · exact applyF_b (hE k g1 (by omega)) g3
  · exact g3
abbrev roomL (s mk : Int → Int) : Int := s 1 - sizeA mk 0
def chCl (s cl mk : Int → Int) : Int → Int := applyF mk 0 (cpy s (8 + 12 * mk 0) cl 0 12)
abbrev chIs (s cl mk : Int → Int) : Prop := s 0 = 1 ∨ (s 0 = 2 ∧ pict (chCl s cl mk) 0 < timeOf s (mk 0) + timeA mk 0)
def chMk (s cl mk : Int → Int) : Int → Int := if chIs s cl mk then picF (mk 0) (chCl s cl mk) mk else mk
def chBf (s cl bf mk : Int → Int) : Int → Int := cpy (cpy s (8 + 12 * mk 0) cl 0 12) 0 bf 0 12
abbrev fits1 (s mk : Int → Int) : Prop := usedW s (droppable s (s 1 - sizeA mk 0)) ≤ s 1 - sizeA mk 0
def logE (s mk : Int → Int) : Int := 170 + 17 * (s 3 - (s 2 + droppable s (s 1 - sizeA mk 0)))
def logS4 (s cl mk : Int → Int) : Int → Int := cpy cl 0 (cpy mk 0 (upI (dropsF s (droppable s (s 1 - sizeA mk 0))) 3 (s 3 + 1)) (logE s mk) 17) (8 + 12 * mk 0) 12
def logS5 (s cl mk : Int → Int) : Int → Int := upI (logS4 s cl mk) (158 + mk 0) (if mk 1 = 0 then 0 else logS4 s cl mk (158 + mk 0))
def logsF (s cl mk : Int → Int) : Int → Int := upI (logS5 s cl mk) (if mk 1 = 0 then 5 else 6) (logS5 s cl mk (if mk 1 = 0 then 5 else 6) + 1)
def recA (pa : Int → Int) (sv : Int) (f : Int → Int) : Int → Int := cpy f 0 (if sv = 4 then cpy pa 1870 pa 0 5610 else pa) (1870 * (if sv = 4 then 3 else sv)) 1870
def recV (sv : Int) : Int := (if sv = 4 then 3 else sv) + 1
-- dropping leaves all else
theorem dropD {s : Int → Int} (hE : EntS s) {many : Int} (h0 : 0 ≤ many) (h1 : s 2 + many ≤ s 3) : ∀ k, 0 ≤ k → k ≤ many → ∀ j, j < 164 ∨ 170 ≤ j → foldI (fun c k => upI c (164 + ofE s (s 2 + k) 0) (s 2 + k)) s 0 k j = s j := by
  intro k k0 k1
  refine foldI_indB (f := fun c k => upI c (164 + ofE s (s 2 + k) 0) (s 2 + k)) (a := 0) (e := many) (fun _ c => ∀ j, j < 164 ∨ 170 ≤ j → c j = s j) (fun _ _ => rfl) (fun k c g0 g1 g2 j hj => ?_) k k0 k1
  have := hE.p (k := s 2 + k) (by omega) (by omega)
  rw [upI_n (by omega)]
  exact g2 j hj
theorem dropsF_lo {s : Int → Int} (hE : EntS s) {many : Int} (h0 : 0 ≤ many) (h1 : s 2 + many ≤ s 3) {j : Int} (hj : j < 164) (hj2 : j ≠ 2) : dropsF s many j = s j := by
  unfold dropsF
  try dsimp only
  rw [if_neg (by omega), upI_n hj2, dropD hE h0 h1 many h0 (Int.le_refl _) j (Or.inl hj)]
theorem dropsF_2 {s : Int → Int} {many : Int} : dropsF s many 2 = s 2 + many := by
  unfold dropsF
  try dsimp only
  rw [if_neg (by omega), upI_s]
theorem dropsF_e {s : Int → Int} (hE : EntS s) {many : Int} (h0 : 0 ≤ many) (h1 : s 2 + many ≤ s 3) {j : Int} (hj : 170 ≤ j) (hj2 : j < 170 + 17 * (s 3 - (s 2 + many))) : dropsF s many j = s (j + 17 * many) := by
  unfold dropsF
  try dsimp only
  rw [if_pos ⟨hj, hj2⟩, upI_n (by omega), dropD hE h0 h1 many h0 (Int.le_refl _) _ (Or.inr (by omega))]
section
variable {G : GX} {sz : Nat} {m : Mem} {o : Nat} {s sp pa sh tx cl bf mk : Int → Int} {sv ish ln st : Int}
theorem ok_restores {p e : Int} (hN : Num s) (hE : EntS s) (hC : CellS s) (hp : 0 ≤ p ∧ p < 6) (h1 : s 2 ≤ e) (h2 : e ≤ s 3) : Ok G kX6_restores 4 [.inr (some o), .inl p, .inl e] sz (MM m o s sp pa sv sh ish tx ln cl bf mk st) 0 0 (PV sz (MM m o s sp pa sv sh ish tx ln (restQ s p e cl bf).1 (restQ s p e cl bf).2 mk st)) := by
  refine Ok.body [some (.inr (some o)), some (.inl p), some (.inl e), none] rfl (Nat.le_of_ble_eq_true rfl) (by decide) ?_
  obtain ⟨n0, n1, n2, n3, n4⟩ := id hN
  have loop : ∀ (n : Nat) (k : Int) (q : (Int → Int) × (Int → Int)), (e - k).toNat < n → s 2 ≤ k → k ≤ e → q = foldI (restF s p e) (cpy s (80 + 12 * p) cl 0 12, bf) (s 2) k → V G kX6_restores (rmM 4 0 0) (QfM G (PV sz (MM m o s sp pa sv sh ish tx ln (restQ s p e cl bf).1 (restQ s p e cl bf).2 mk st)) 0 0) 14 [some (.inr (some o)), some (.inl p), some (.inl e), some (.inl k)] [] sz (MM m o s sp pa sv sh ish tx ln q.1 q.2 mk st) 0 0 := by
    intro n
    induction n with
    | zero => intro k q h; omega
    | succ n ih =>
      intro k q hn hk1 hk2 hq
      have hb := restQ_b hE hC hp h2 cl bf hk1 hk2
      rw [← hq] at hb
      refine V.ild3 aX6_restores_14 ?_
      refine V.ild2 aX6_restores_15 ?_
      refine V.icmp_ge aX6_restores_16 (tgt := 48) (by decide) (fun c16 => ?_) (fun c16 => ?_)
      · refine V.ret aX6_restores_48 rfl (by decide) ?_
        exact PV.of (by rw [hq, show k = e by omega]; rfl)
      · refine V.ald0 aX6_restores_19 ?_
        refine V.ild1 aX6_restores_20 ?_
        refine V.ild3 aX6_restores_21 ?_
        refine V.ild2 aX6_restores_22 ?_
        refine call_X6_needs aX6_restores_23 gl_RX6_73 (ok_needs hN hp (by omega) (by omega) (by omega)) (MM_o) (Nat.le_of_ble_eq_true rfl) (by decide) (goI ?_)
        refine V.ifb_eq aX6_restores_26 (tgt := 42) (by decide) (fun c26 => ?_) (fun c26 => ?_)
        · refine V.inc3 aX6_restores_42 (by omega) ?_
          refine V.goto aX6_restores_45 (tgt := 14) (by decide) ?_
          refine ih (k + 1) (restF s p e q k) (by omega) (by omega) (by omega) (by rw [foldI_s (by omega), ← hq]) |> fun h => V.mem ?_ h
          unfold restF
          first | rw [if_pos c26] | rw [if_neg c26]
        · refine V.ald0 aX6_restores_29 ?_
          refine V.ald0 aX6_restores_30 ?_
          refine M.gf aX6_restores_31 fl_RX6_7 rfl ?_
          refine V.ald0 aX6_restores_34 ?_
          refine V.ild3 aX6_restores_35 ?_
          refine call_X6_at aX6_restores_36 gl_RX6_55 (ok_at (by omega) (by omega) (by omega)) (MM_o) (Nat.le_of_ble_eq_true rfl) (by decide) (goI ?_)
          refine call_X6_applies aX6_restores_39 gl_RX6_87 (ok_applies (fun _ _ => MM_s) (by omega) (by omega) (by omega) (hE k hk1 (by omega)) hb) (MM_o) (Nat.le_of_ble_eq_true rfl) (by decide) (goV ?_)
          refine V.inc3 aX6_restores_42 (by omega) ?_
          refine V.goto aX6_restores_45 (tgt := 14) (by decide) ?_
          refine ih (k + 1) (restF s p e q k) (by omega) (by omega) (by omega) (by rw [foldI_s (by omega), ← hq]) |> fun h => V.mem ?_ h
          unfold restF
          first | rw [if_pos c26] | rw [if_neg c26]
  refine V.ald0 aX6_restores_0 ?_
  refine V.bipush aX6_restores_1 (by decide) (by decide) ?_
  refine V.ild1 aX6_restores_3 ?_
  refine call_X6_holds aX6_restores_4 gl_RX6_83 (ok_holds (by omega) (by omega)) (MM_o) (Nat.le_of_ble_eq_true rfl) (by decide) (goV ?_)
  refine V.ald0 aX6_restores_7 ?_
  refine M.gf aX6_restores_8 fl_RX6_7 rfl ?_
  refine V.iconst aX6_restores_11 (by decide) ?_
  refine M.lds aX6_restores_12 (by omega) ?_
  refine V.ist3 aX6_restores_13 ?_
  exact loop _ (s 2) _ (Nat.lt_succ_self _) (Int.le_refl _) (by omega) (by rw [foldI_0 (Int.le_refl _)])
theorem ok_drops {many : Int} (hN : Num s) (hE : EntS s) (h0 : 0 ≤ many) (h1 : s 2 + many ≤ s 3) : Ok G kX6_drops 2 [.inr (some o), .inl many] sz (MM m o s sp pa sv sh ish tx ln cl bf mk st) 0 0 (PV sz (MM m o (dropsF s many) sp pa sv sh ish tx ln cl bf mk st)) := by
  refine Ok.body [some (.inr (some o)), some (.inl many), none] rfl (Nat.le_of_ble_eq_true rfl) (by decide) ?_
  obtain ⟨n0, n1, n2, n3, n4⟩ := id hN
  obtain ⟨D, hD⟩ : ∃ D : Int → (Int → Int), D = fun k => foldI (fun c k => upI c (164 + ofE s (s 2 + k) 0) (s 2 + k)) s 0 k := ⟨_, rfl⟩
  have hDj : ∀ k, 0 ≤ k → k ≤ many → ∀ j, j < 164 ∨ 170 ≤ j → D k j = s j := by rw [hD]; exact dropD hE h0 h1
  have hDs : ∀ k, 0 ≤ k → D (k + 1) = upI (D k) (164 + ofE s (s 2 + k) 0) (s 2 + k) := by
    intro k hk
    rw [hD]
    exact foldI_s hk
  have hD0 : D 0 = s := by rw [hD]; exact foldI_0 (Int.le_refl _)
  obtain ⟨S2, hS2⟩ : ∃ S2 : Int → Int, S2 = upI (D many) 2 (s 2 + many) := ⟨_, rfl⟩
  have hS22 : S2 2 = s 2 + many := by rw [hS2, upI_s]
  have hS23 : S2 3 = s 3 := by rw [hS2, upI_n (by decide), hDj many h0 (Int.le_refl _) 3 (Or.inl (by decide))]
  have hfin : dropsF s many = fun j => if 170 ≤ j ∧ j < 170 + 17 * (s 3 - (s 2 + many)) then S2 (j + 17 * many) else S2 j := by
    rw [hS2, hD]
    rfl
  have loop2 : ∀ (n : Nat) (k : Int), (1870 - k).toNat < n → 170 ≤ k → k ≤ 170 + 17 * (s 3 - (s 2 + many)) → V G kX6_drops (rmM 2 0 0) (QfM G (PV sz (MM m o (dropsF s many) sp pa sv sh ish tx ln cl bf mk st)) 0 0) 57 [some (.inr (some o)), some (.inl many), some (.inl k)] [] sz (MM m o (fun j => if 170 ≤ j ∧ j < k then S2 (j + 17 * many) else S2 j) sp pa sv sh ish tx ln cl bf mk st) 0 0 := by
    intro n
    induction n with
    | zero => intro k h; omega
    | succ n ih =>
      intro k hn hk1 hk2
      obtain ⟨F, hF⟩ : ∃ F : Int → Int, F = fun j => if 170 ≤ j ∧ j < k then S2 (j + 17 * many) else S2 j := ⟨_, rfl⟩
      rw [← hF]
      have hF2 : F 2 = s 2 + many := by rw [hF]; dsimp only; rw [if_neg (by omega), hS22]
      have hF3 : F 3 = s 3 := by rw [hF]; dsimp only; rw [if_neg (by omega), hS23]
      refine V.ild2 aX6_drops_57 ?_
      refine V.sipush aX6_drops_58 (by decide) (by decide) ?_
      refine V.bipush aX6_drops_61 (by decide) (by decide) ?_
      refine V.ald0 aX6_drops_63 ?_
      refine M.gf aX6_drops_64 fl_RX6_7 rfl ?_
      refine V.iconst aX6_drops_67 (by decide) ?_
      refine M.lds aX6_drops_68 (by omega) ?_
      refine V.ald0 aX6_drops_69 ?_
      refine M.gf aX6_drops_70 fl_RX6_7 rfl ?_
      refine V.iconst aX6_drops_73 (by decide) ?_
      refine M.lds aX6_drops_74 (by omega) ?_
      refine V.isub aX6_drops_75 (by omega) ?_
      refine V.imul aX6_drops_76 (by omega) ?_
      refine V.iadd aX6_drops_77 (by omega) ?_
      refine V.icmp_ge aX6_drops_78 (tgt := 104) (by decide) (fun c78 => ?_) (fun c78 => ?_)
      · refine V.ret aX6_drops_104 rfl (by decide) ?_
        exact PV.of (by rw [hfin, hF, show k = 170 + 17 * (s 3 - (s 2 + many)) by omega])
      · refine V.ald0 aX6_drops_81 ?_
        refine M.gf aX6_drops_82 fl_RX6_7 rfl ?_
        refine V.ild2 aX6_drops_85 ?_
        refine V.ald0 aX6_drops_86 ?_
        refine M.gf aX6_drops_87 fl_RX6_7 rfl ?_
        refine V.ild2 aX6_drops_90 ?_
        refine V.bipush aX6_drops_91 (by decide) (by decide) ?_
        refine V.ild1 aX6_drops_93 ?_
        refine V.imul aX6_drops_94 (by omega) ?_
        refine V.iadd aX6_drops_95 (by omega) ?_
        refine M.lds aX6_drops_96 (by omega) ?_
        rw [show F (k + 17 * many) = S2 (k + 17 * many) by rw [hF]; dsimp only; rw [if_neg (by omega)]]
        refine M.sts aX6_drops_97 (by omega) ?_
        refine V.inc2 aX6_drops_98 (by omega) ?_
        refine V.goto aX6_drops_101 (tgt := 57) (by decide) ?_
        refine V.mem ?_ (ih (k + 1) (by omega) (by omega) (by omega))
        congr 1
        rw [hF]
        funext j
        unfold upI
        by_cases hj : j = k
        · rw [if_pos hj, if_pos (by omega), hj]
        · rw [if_neg hj]
          dsimp only
          by_cases h2 : 170 ≤ j ∧ j < k
          · rw [if_pos h2, if_pos (by omega)]
          · rw [if_neg h2, if_neg (by omega)]
  have loop : ∀ (n : Nat) (k : Int), (many - k).toNat < n → 0 ≤ k → k ≤ many → V G kX6_drops (rmM 2 0 0) (QfM G (PV sz (MM m o (dropsF s many) sp pa sv sh ish tx ln cl bf mk st)) 0 0) 2 [some (.inr (some o)), some (.inl many), some (.inl k)] [] sz (MM m o (D k) sp pa sv sh ish tx ln cl bf mk st) 0 0 := by
    intro n
    induction n with
    | zero => intro k h; omega
    | succ n ih =>
      intro k hn hk1 hk2
      have q2 := hDj k hk1 hk2 2 (Or.inl (by decide))
      refine V.ild2 aX6_drops_2 ?_
      refine V.ild1 aX6_drops_3 ?_
      refine V.icmp_ge aX6_drops_4 (tgt := 43) (by decide) (fun c4 => ?_) (fun c4 => ?_)
      · have ek : k = many := by omega
        subst ek
        refine V.ald0 aX6_drops_43 ?_
        refine M.gf aX6_drops_44 fl_RX6_7 rfl ?_
        refine V.iconst aX6_drops_47 (by decide) ?_
        refine V.dup2 aX6_drops_48 ?_
        refine M.lds aX6_drops_49 (by omega) ?_
        rw [q2]
        refine V.ild1 aX6_drops_50 ?_
        refine V.iadd aX6_drops_51 (by omega) ?_
        refine M.sts aX6_drops_52 (by omega) ?_
        rw [← hS2]
        refine V.sipush aX6_drops_53 (by decide) (by decide) ?_
        refine V.ist2 aX6_drops_56 ?_
        refine V.mem ?_ (loop2 _ 170 (Nat.lt_succ_self _) (by decide) (by omega))
        congr 1
        funext j
        rw [if_neg (by omega)]
      · have qp := hE.p (k := s 2 + k) (by omega) (by omega)
        have qe : ofE (D k) (s 2 + k) 0 = ofE s (s 2 + k) 0 := by
          dsimp only [ofE, atE]
          rw [q2, hDj k hk1 hk2 _ (Or.inr (by omega))]
        refine V.ald0 aX6_drops_7 ?_
        refine M.gf aX6_drops_8 fl_RX6_7 rfl ?_
        refine V.sipush aX6_drops_11 (by decide) (by decide) ?_
        refine V.ald0 aX6_drops_14 ?_
        refine V.ald0 aX6_drops_15 ?_
        refine M.gf aX6_drops_16 fl_RX6_7 rfl ?_
        refine V.iconst aX6_drops_19 (by decide) ?_
        refine M.lds aX6_drops_20 (by omega) ?_
        rw [q2]
        refine V.ild2 aX6_drops_21 ?_
        refine V.iadd aX6_drops_22 (by omega) ?_
        refine V.iconst aX6_drops_23 (by decide) ?_
        refine call_X6_of aX6_drops_24 gl_RX6_66 (ok_of (by omega) (by omega) (by omega) (by omega) (by omega)) (MM_o) (Nat.le_of_ble_eq_true rfl) (by decide) (goI ?_)
        rw [qe]
        refine V.iadd aX6_drops_27 (by omega) ?_
        refine V.ald0 aX6_drops_28 ?_
        refine M.gf aX6_drops_29 fl_RX6_7 rfl ?_
        refine V.iconst aX6_drops_32 (by decide) ?_
        refine M.lds aX6_drops_33 (by omega) ?_
        rw [q2]
        refine V.ild2 aX6_drops_34 ?_
        refine V.iadd aX6_drops_35 (by omega) ?_
        refine M.sts aX6_drops_36 (by omega) ?_
        refine V.inc2 aX6_drops_37 (by omega) ?_
        refine V.goto aX6_drops_40 (tgt := 2) (by decide) ?_
        rw [← hDs k hk1]
        exact ih (k + 1) (by omega) (by omega) (by omega)
  refine V.iconst aX6_drops_0 (by decide) ?_
  refine V.ist2 aX6_drops_1 ?_
  refine V.mem (m2 := (MM m o (D 0) sp pa sv sh ish tx ln cl bf mk st)) (by rw [hD0]) ?_
  exact loop _ 0 (Nat.lt_succ_self _) (by decide) h0
theorem ok_chooses (hN : Num s) (hE : EntS s) (hC : CellS s) (hM : entOK mk 0) : Ok G kX6_chooses 5 [.inr (some o)] sz (MM m o s sp pa sv sh ish tx ln cl bf mk st) 0 0 (PV sz (MM m o s sp pa sv sh ish tx ln (chCl s cl mk) (chBf s cl bf mk) (chMk s cl mk) st)) := by
  refine Ok.body [some (.inr (some o)), none, none, none] rfl (Nat.le_of_ble_eq_true rfl) (by decide) ?_
  obtain ⟨n0, n1, n2, n3, n4⟩ := id hN
  have hp : 0 ≤ mk 0 ∧ mk 0 < 6 := hM.1
  have ht := timeA_b hM
  have ht2 := timeOf_b (p := mk 0) hE (z := if start s (mk 0) (s 3) = -5 then 5 else 0) (by split <;> omega) (k := s 3) (by omega) (Int.le_refl _)
  have ht3 : 0 ≤ timeOf s (mk 0) ∧ timeOf s (mk 0) ≤ 5 + 27 * (s 3 - s 2) := ht2
  have hb := hold_b hC (Or.inl rfl) hp cl
  refine V.ald0 aX6_chooses_0 ?_
  refine M.gf aX6_chooses_1 fl_RX6_32 rfl ?_
  refine V.iconst aX6_chooses_4 (by decide) ?_
  refine M.ldmk aX6_chooses_5 (by omega) ?_
  refine V.ist1 aX6_chooses_6 ?_
  refine V.ald0 aX6_chooses_7 ?_
  refine V.bipush aX6_chooses_8 (by decide) (by decide) ?_
  refine V.ild1 aX6_chooses_10 ?_
  refine call_X6_holds aX6_chooses_11 gl_RX6_83 (ok_holds (by omega) (by omega)) (MM_o) (Nat.le_of_ble_eq_true rfl) (by decide) (goV ?_)
  refine V.ald0 aX6_chooses_14 ?_
  refine V.ild1 aX6_chooses_15 ?_
  refine call_X6_timeOf aX6_chooses_16 gl_RX6_95 (ok_timeOf hN hE hp) (MM_o) (Nat.le_of_ble_eq_true rfl) (by decide) (goI ?_)
  refine V.ald0 aX6_chooses_19 ?_
  refine M.gf aX6_chooses_20 fl_RX6_32 rfl ?_
  refine V.iconst aX6_chooses_23 (by decide) ?_
  refine call_X6_timeAt aX6_chooses_24 gl_RX6_80 (ok_timeAt MM_mk (by decide) (by decide) (by decide) hM) (Nat.le_of_ble_eq_true rfl) (by decide) (goI ?_)
  refine V.iadd aX6_chooses_27 (by omega) ?_
  refine V.ist2 aX6_chooses_28 ?_
  refine V.ald0 aX6_chooses_29 ?_
  refine V.ald0 aX6_chooses_30 ?_
  refine M.gf aX6_chooses_31 fl_RX6_32 rfl ?_
  refine V.iconst aX6_chooses_34 (by decide) ?_
  refine call_X6_applies aX6_chooses_35 gl_RX6_87 (ok_applies (fun _ _ => MM_mk) (by decide) (by decide) (by decide) hM hb) (MM_o) (Nat.le_of_ble_eq_true rfl) (by decide) (goV ?_)
  refine V.ald0 aX6_chooses_38 ?_
  refine M.gf aX6_chooses_39 fl_RX6_7 rfl ?_
  refine V.iconst aX6_chooses_42 (by decide) ?_
  refine M.lds aX6_chooses_43 (by omega) ?_
  refine V.iconst aX6_chooses_44 (by decide) ?_
  refine V.icmp_eq aX6_chooses_45 (tgt := 70) (by decide) (fun c45 => ?_) (fun c45 => ?_)
  · refine V.iconst aX6_chooses_70 (by decide) ?_
    refine V.goto aX6_chooses_71 (tgt := 75) (by decide) ?_
    refine V.ist3 aX6_chooses_75 ?_
    refine V.ild3 aX6_chooses_76 ?_
    refine V.if_eq aX6_chooses_77 (tgt := 85) (by decide) (fun c77 => ?_) (fun c77 => ?_)
    · refine V.ret aX6_chooses_85 rfl (by decide) ?_
      refine PV.of ?_
      unfold chMk
      by_cases hx : chIs s cl mk
      · rw [if_pos hx]
        first | rfl | (exfalso; unfold chIs chCl at hx; omega)
      · rw [if_neg hx]
        first | rfl | (exfalso; unfold chIs chCl at hx; omega)
    · refine V.ald0 aX6_chooses_80 ?_
      refine V.ild1 aX6_chooses_81 ?_
      refine call_X6_pictures aX6_chooses_82 gl_RX6_98 (ok_pictures) (MM_o) (Nat.le_of_ble_eq_true rfl) (by decide) (goV ?_)
      refine V.ret aX6_chooses_85 rfl (by decide) ?_
      refine PV.of ?_
      unfold chMk
      by_cases hx : chIs s cl mk
      · rw [if_pos hx]
        first | rfl | (exfalso; unfold chIs chCl at hx; omega)
      · rw [if_neg hx]
        first | rfl | (exfalso; unfold chIs chCl at hx; omega)
  · refine V.ald0 aX6_chooses_48 ?_
    refine M.gf aX6_chooses_49 fl_RX6_7 rfl ?_
    refine V.iconst aX6_chooses_52 (by decide) ?_
    refine M.lds aX6_chooses_53 (by omega) ?_
    refine V.iconst aX6_chooses_54 (by decide) ?_
    refine V.icmp_ne aX6_chooses_55 (tgt := 74) (by decide) (fun c55 => ?_) (fun c55 => ?_)
    · refine V.iconst aX6_chooses_74 (by decide) ?_
      refine V.ist3 aX6_chooses_75 ?_
      refine V.ild3 aX6_chooses_76 ?_
      refine V.if_eq aX6_chooses_77 (tgt := 85) (by decide) (fun c77 => ?_) (fun c77 => ?_)
      · refine V.ret aX6_chooses_85 rfl (by decide) ?_
        refine PV.of ?_
        unfold chMk
        by_cases hx : chIs s cl mk
        · rw [if_pos hx]
          first | rfl | (exfalso; unfold chIs chCl at hx; omega)
        · rw [if_neg hx]
          first | rfl | (exfalso; unfold chIs chCl at hx; omega)
      · refine V.ald0 aX6_chooses_80 ?_
        refine V.ild1 aX6_chooses_81 ?_
        refine call_X6_pictures aX6_chooses_82 gl_RX6_98 (ok_pictures) (MM_o) (Nat.le_of_ble_eq_true rfl) (by decide) (goV ?_)
        refine V.ret aX6_chooses_85 rfl (by decide) ?_
        refine PV.of ?_
        unfold chMk
        by_cases hx : chIs s cl mk
        · rw [if_pos hx]
          first | rfl | (exfalso; unfold chIs chCl at hx; omega)
        · rw [if_neg hx]
          first | rfl | (exfalso; unfold chIs chCl at hx; omega)
    · refine V.ild2 aX6_chooses_58 ?_
      refine V.ald0 aX6_chooses_59 ?_
      refine M.gf aX6_chooses_60 fl_RX6_26 rfl ?_
      refine V.iconst aX6_chooses_63 (by decide) ?_
      refine call_X6_pictured aX6_chooses_64 gl_RX6_59 (ok_pictured MM_cl (by decide) (by decide) (by decide)) (Nat.le_of_ble_eq_true rfl) (by decide) (goI ?_)
      refine V.icmp_le aX6_chooses_67 (tgt := 74) (by decide) (fun c67 => ?_) (fun c67 => ?_)
      · refine V.iconst aX6_chooses_74 (by decide) ?_
        refine V.ist3 aX6_chooses_75 ?_
        refine V.ild3 aX6_chooses_76 ?_
        refine V.if_eq aX6_chooses_77 (tgt := 85) (by decide) (fun c77 => ?_) (fun c77 => ?_)
        · refine V.ret aX6_chooses_85 rfl (by decide) ?_
          refine PV.of ?_
          unfold chMk
          by_cases hx : chIs s cl mk
          · rw [if_pos hx]
            first | rfl | (exfalso; unfold chIs chCl at hx; omega)
          · rw [if_neg hx]
            first | rfl | (exfalso; unfold chIs chCl at hx; omega)
        · refine V.ald0 aX6_chooses_80 ?_
          refine V.ild1 aX6_chooses_81 ?_
          refine call_X6_pictures aX6_chooses_82 gl_RX6_98 (ok_pictures) (MM_o) (Nat.le_of_ble_eq_true rfl) (by decide) (goV ?_)
          refine V.ret aX6_chooses_85 rfl (by decide) ?_
          refine PV.of ?_
          unfold chMk
          by_cases hx : chIs s cl mk
          · rw [if_pos hx]
            first | rfl | (exfalso; unfold chIs chCl at hx; omega)
          · rw [if_neg hx]
            first | rfl | (exfalso; unfold chIs chCl at hx; omega)
      · refine V.iconst aX6_chooses_70 (by decide) ?_
        refine V.goto aX6_chooses_71 (tgt := 75) (by decide) ?_
        refine V.ist3 aX6_chooses_75 ?_
        refine V.ild3 aX6_chooses_76 ?_
        refine V.if_eq aX6_chooses_77 (tgt := 85) (by decide) (fun c77 => ?_) (fun c77 => ?_)
        · refine V.ret aX6_chooses_85 rfl (by decide) ?_
          refine PV.of ?_
          unfold chMk
          by_cases hx : chIs s cl mk
          · rw [if_pos hx]
            first | rfl | (exfalso; unfold chIs chCl at hx; omega)
          · rw [if_neg hx]
            first | rfl | (exfalso; unfold chIs chCl at hx; omega)
        · refine V.ald0 aX6_chooses_80 ?_
          refine V.ild1 aX6_chooses_81 ?_
          refine call_X6_pictures aX6_chooses_82 gl_RX6_98 (ok_pictures) (MM_o) (Nat.le_of_ble_eq_true rfl) (by decide) (goV ?_)
          refine V.ret aX6_chooses_85 rfl (by decide) ?_
          refine PV.of ?_
          unfold chMk
          by_cases hx : chIs s cl mk
          · rw [if_pos hx]
            first | rfl | (exfalso; unfold chIs chCl at hx; omega)
          · rw [if_neg hx]
            first | rfl | (exfalso; unfold chIs chCl at hx; omega)
theorem ok_hasRoom (hN : Num s) (hE : EntS s) (hM : entOK mk 0) (h1 : 0 ≤ s 1 ∧ s 1 ≤ 300) : Ok G kX6_hasRoom 6 [.inr (some o)] sz (MM m o s sp pa sv sh ish tx ln cl bf mk st) 0 0 (PI (b2 (fits1 s mk)) sz (MM m o s sp pa sv sh ish tx ln cl bf mk st)) := by
  refine Ok.body [some (.inr (some o)), none] rfl (Nat.le_of_ble_eq_true rfl) (by decide) ?_
  obtain ⟨n0, n1, n2, n3, n4⟩ := id hN
  have hs := sizeA_b hM
  have hd := droppable_b (most := s 1 - sizeA mk 0) hN
  have hm3 := hM.2.2.1
  rw [show (0 : Int) + 3 = 3 from rfl, show (0 : Int) + 2 = 2 from rfl] at hm3
  refine V.ald0 aX6_hasRoom_0 ?_
  refine M.gf aX6_hasRoom_1 fl_RX6_7 rfl ?_
  refine V.iconst aX6_hasRoom_4 (by decide) ?_
  refine M.lds aX6_hasRoom_5 (by omega) ?_
  refine V.ald0 aX6_hasRoom_6 ?_
  refine M.gf aX6_hasRoom_7 fl_RX6_32 rfl ?_
  refine V.iconst aX6_hasRoom_10 (by decide) ?_
  refine call_X6_sizeAt aX6_hasRoom_11 gl_RX6_63 (ok_sizeAt MM_mk (by decide) (by decide) (by decide) (by rw [show (0 : Int) + 3 = 3 from rfl]; omega) (by rw [show (0 : Int) + 3 = 3 from rfl]; omega)) (Nat.le_of_ble_eq_true rfl) (by decide) (goI ?_)
  refine V.isub aX6_hasRoom_14 (by omega) ?_
  refine V.ist1 aX6_hasRoom_15 ?_
  refine V.ald0 aX6_hasRoom_16 ?_
  refine V.ald0 aX6_hasRoom_17 ?_
  refine V.ild1 aX6_hasRoom_18 ?_
  refine call_X6_droppable aX6_hasRoom_19 gl_RX6_106 (ok_droppable hN hE (by omega)) (MM_o) (Nat.le_of_ble_eq_true rfl) (by decide) (goI ?_)
  refine call_X6_usedWithout aX6_hasRoom_22 gl_RX6_109 (ok_usedWithout hN hE (by omega) (by omega)) (MM_o) (Nat.le_of_ble_eq_true rfl) (by decide) (goI ?_)
  refine V.ild1 aX6_hasRoom_25 ?_
  refine V.icmp_gt aX6_hasRoom_26 (tgt := 33) (by decide) (fun c26 => ?_) (fun c26 => ?_)
  · refine V.iconst aX6_hasRoom_33 (by decide) ?_
    refine V.zret aX6_hasRoom_34 rfl (by first | decide | exact b2_01 | omega) (by decide) ?_
    exact PI.of (by unfold b2; split <;> omega)
  · refine V.iconst aX6_hasRoom_29 (by decide) ?_
    refine V.goto aX6_hasRoom_30 (tgt := 34) (by decide) ?_
    refine V.zret aX6_hasRoom_34 rfl (by first | decide | exact b2_01 | omega) (by decide) ?_
    exact PI.of (by unfold b2; split <;> omega)
theorem ok_records {ra : Nat} {f : Int → Int} (hr : ∀ pa sv, (MM m o s sp pa sv sh ish tx ln cl bf mk st) ra = iar 1870 f) (hne : ra ≠ o + 3) (hv : 0 ≤ sv ∧ sv ≤ 4) : Ok G kX6_records 1 [.inr (some o), .inr (some ra)] sz (MM m o s sp pa sv sh ish tx ln cl bf mk st) 0 0 (PV sz (MM m o s sp (recA pa sv f) (recV sv) sh ish tx ln cl bf mk st)) := by
  refine Ok.body [some (.inr (some o)), some (.inr (some ra)), none] rfl (Nat.le_of_ble_eq_true rfl) (by decide) ?_
  have tail : ∀ (w : Option AV) (pa1 : Int → Int) (sv1 : Int), (0 ≤ sv1 ∧ sv1 ≤ 3) → recA pa sv f = cpy f 0 pa1 (1870 * sv1) 1870 → recV sv = sv1 + 1 → V G kX6_records (rmM 1 0 0) (QfM G (PV sz (MM m o s sp (recA pa sv f) (recV sv) sh ish tx ln cl bf mk st)) 0 0) 49 [some (.inr (some o)), some (.inr (some ra)), w] [] sz (MM m o s sp pa1 sv1 sh ish tx ln cl bf mk st) 0 0 := by
    intro w pa1 sv1 hs1 e1 e2
    refine V.ald1 aX6_records_49 ?_
    refine V.iconst aX6_records_50 (by decide) ?_
    refine V.ald0 aX6_records_51 ?_
    refine M.gf aX6_records_52 fl_RX6_16 rfl ?_
    refine V.sipush aX6_records_55 (by decide) (by decide) ?_
    refine V.ald0 aX6_records_58 ?_
    refine M.gf aX6_records_59 fl_RX6_39 rfl ?_
    refine V.imul aX6_records_62 (by omega) ?_
    refine call_X6_lays aX6_records_63 gl_RX6_43 (ok_lays (hr pa1 sv1) MM_pa hne (by decide) (by omega)) (Nat.le_of_ble_eq_true rfl) (by decide) (goV ?_)
    refine V.mem MM_wpa.symm ?_
    refine V.ald0 aX6_records_66 ?_
    refine V.dup aX6_records_67 ?_
    refine M.gf aX6_records_68 fl_RX6_39 rfl ?_
    refine V.iconst aX6_records_71 (by decide) ?_
    refine V.iadd aX6_records_72 (by omega) ?_
    refine M.pfsv aX6_records_73 fl_RX6_39 ?_
    refine V.ret aX6_records_76 rfl (by decide) ?_
    exact PV.of (by rw [e1, e2])
  have loop : ∀ (n : Nat) (k : Int), (5610 - k).toNat < n → 0 ≤ k → k ≤ 5610 → sv = 4 → V G kX6_records (rmM 1 0 0) (QfM G (PV sz (MM m o s sp (recA pa sv f) (recV sv) sh ish tx ln cl bf mk st)) 0 0) 10 [some (.inr (some o)), some (.inr (some ra)), some (.inl k)] [] sz (MM m o s sp (cpy pa 1870 pa 0 k) sv sh ish tx ln cl bf mk st) 0 0 := by
    intro n
    induction n with
    | zero => intro k h; omega
    | succ n ih =>
      intro k hn hk1 hk2 h4
      refine V.ild2 aX6_records_10 ?_
      refine V.sipush aX6_records_11 (by decide) (by decide) ?_
      refine V.icmp_ge aX6_records_14 (tgt := 39) (by decide) (fun c14 => ?_) (fun c14 => ?_)
      · rw [show k = 5610 by omega]
        refine V.ald0 aX6_records_39 ?_
        refine V.dup aX6_records_40 ?_
        refine M.gf aX6_records_41 fl_RX6_39 rfl ?_
        refine V.iconst aX6_records_44 (by decide) ?_
        refine V.isub aX6_records_45 (by omega) ?_
        refine M.pfsv aX6_records_46 fl_RX6_39 ?_
        refine tail _ _ _ (by omega) ?_ ?_
        · unfold recA; rw [if_pos h4, if_pos h4, h4]; rfl
        · unfold recV; rw [if_pos h4, h4]; rfl
      · refine V.ald0 aX6_records_17 ?_
        refine M.gf aX6_records_18 fl_RX6_16 rfl ?_
        refine V.ild2 aX6_records_21 ?_
        refine V.ald0 aX6_records_22 ?_
        refine M.gf aX6_records_23 fl_RX6_16 rfl ?_
        refine V.ild2 aX6_records_26 ?_
        refine V.sipush aX6_records_27 (by decide) (by decide) ?_
        refine V.iadd aX6_records_30 (by omega) ?_
        refine M.ldpa aX6_records_31 (by omega) ?_
        rw [cpy_out (by omega)]
        refine M.stpa aX6_records_32 (by omega) ?_
        refine V.inc2 aX6_records_33 (by omega) ?_
        refine V.goto aX6_records_36 (tgt := 10) (by decide) ?_
        rw [cpy_s hk1 (by rw [Int.add_comm]) (by omega)]
        exact ih (k + 1) (by omega) (by omega) (by omega) h4
  refine V.ald0 aX6_records_0 ?_
  refine M.gf aX6_records_1 fl_RX6_39 rfl ?_
  refine V.iconst aX6_records_4 (by decide) ?_
  refine V.icmp_ne aX6_records_5 (tgt := 49) (by decide) (fun c5 => ?_) (fun c5 => ?_)
  · refine tail _ _ _ (by omega) ?_ ?_
    · unfold recA; rw [if_neg c5, if_neg c5]
    · unfold recV; rw [if_neg c5]
  · refine V.iconst aX6_records_8 (by decide) ?_
    refine V.ist2 aX6_records_9 ?_
    refine V.mem (m2 := (MM m o s sp (cpy pa 1870 pa 0 0) sv sh ish tx ln cl bf mk st)) (by rw [cpy_0 (by decide)]) ?_
    exact loop _ 0 (Nat.lt_succ_self _) (by decide) (by decide) c5
end

