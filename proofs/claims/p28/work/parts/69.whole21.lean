-- acts of the whole log (part fourteen): orders read from the text
theorem doS_5 {s cl w : Int → Int} (hN : Num s) (hE : EntS s) (hC : CellS s) (hM : w 1 ≠ 0 → entOK w 0) (hp : 0 ≤ w 0 ∧ w 0 < 6) : s 5 ≤ doS s cl w 5 := by
  unfold doS
  split
  · rw [lg_5 hN hE (doMk_ok hC hM hp)]
    split <;> omega
  · exact Int.le_refl _
theorem txtP_01 {tx : Int → Int} {ln : Int} : ∀ (f : Nat) (w : Int → Int) (x : Int), (txtP tx ln f w x).1 = 0 ∨ (txtP tx ln f w x).1 = 1
  | 0, w, x => Or.inl rfl
  | f + 1, w, x => by
    rw [txtP_s]
    split
    · exact Or.inl rfl
    · split
      · exact txtP_01 f _ _
      · show (if (ordP tx ln w x).2.1 = ln then (1 : Int) else 0) = 0 ∨ (if (ordP tx ln w x).2.1 = ln then (1 : Int) else 0) = 1
        split <;> omega
theorem askR_far {Z t0 : Nat} {m m1 : Mem} {e : Nat} {w : Int → Int} (h : AskR Z t0 m e w) (x : ∀ a, (Z ≤ a ∨ a = t0) → ((∃ fs, m a = obj 0 fs) ∨ ∃ n v, m a = iar n v) → m1 a = m a) : AskR Z t0 m1 e w := by
  rcases h with ⟨h1, h2, h3, am, va, nv, vf, h4, h5, h6, h7⟩ | ⟨h1, h2, h3, h4, h0, h5⟩
  · exact Or.inl ⟨h1, h2, h3, am, va, nv, vf, (x e (Or.inl h3) (Or.inl ⟨_, h4⟩)).trans h4, h5, (x va h5 (Or.inr ⟨_, _, h6⟩)).trans h6, h7⟩
  · exact Or.inr ⟨h1, h2, h3, (x e (Or.inl h3) (Or.inl ⟨_, h4⟩)).trans h4, h0, (x t0 (Or.inr rfl) (Or.inr ⟨_, _, h5⟩)).trans h5⟩
theorem foundR_far {Z t0 : Nat} {m m1 : Mem} {tx : Int → Int} {ln : Int} {f : Int → Option Nat} {n : Nat} (h : FoundR Z t0 m tx ln f n) (x : ∀ a, (Z ≤ a ∨ a = t0) → ((∃ fs, m a = obj 0 fs) ∨ ∃ n v, m a = iar n v) → m1 a = m a) : FoundR Z t0 m1 tx ln f n := fun i hi => by
  obtain ⟨e, h1, h2⟩ := h i hi
  exact ⟨e, h1, askR_far h2 x⟩
theorem PQ.mono {m mb : Mem} {X Z t0 : Nat} {C D : Int} {b c : BS} {h : Int → Nat × BS} {sv ish ln : Int} {tx : Int → Int} (p : PQ m X Z t0 mb C b h c sv ish tx ln) (x : C ≤ D ∧ D ≤ 20000) : PQ m X Z t0 mb D b h c sv ish tx ln := ⟨p.1, p.2.1.mono x, fun q => (p.2.2.1 q).mono x, fun i i0 i1 => (p.2.2.2 i i0 i1).mono x⟩
section
variable {G : GX} {sz : Nat} {m m1 mb : Mem} {X Z t0 : Nat} {C D : Int} {b c : BS} {h : Int → Nat × BS} {sv ish ln : Int} {tx : Int → Int}
theorem ok_beginZ (p : PQ m X Z t0 mb C b h c sv ish tx ln) : Ok G kX5_begin 3 [.inr (some X)] sz m 0 0 (fun ret z m' => ret = none ∧ z = sz ∧ (∀ a, (a < X ∨ X + 134 ≤ a) → m' a = m a) ∧ ∃ g', PQ m' X Z t0 mb C b (upI h sv ((h sv).1, (b.1, g'))) c sv ish tx ln ∧ Use Z t0 m' C (b.1, g')) := by
  refine Ok.body [some (.inr (some X))] rfl (Nat.le_of_ble_eq_true rfl) (by decide) ?_
  obtain ⟨p0, u1, u2, u3⟩ := id p
  obtain ⟨p1, p2, p3, p4, p5, p6, p7, p8, p9, p10, p11, p12⟩ := id p0
  have ps := p8 sv p10.1 (by omega)
  have hx := p1
  have e0 : m = BM m (h sv).1 (h sv).2.1 (h sv).2.2 := (p7 sv p10.1 (by omega)).1.eq
  have ok4 := ok_copy4 (G := G) (sz := sz) (m := m) (A := X + 1) (D := (h sv).1) (s := b.1) (t := (h sv).2.1) (g := b.2) (h := (h sv).2.2) p5.1 (by omega) p5.2 (show (h sv).1 + 22 ≤ Z by omega) u1.2.D u1.D4
  rw [← e0] at ok4
  refine V.ald0 aX5_begin_0 ?_
  refine V.getf aX5_begin_1 fl_RX5_16 hx rfl ?_
  refine V.ald0 aX5_begin_4 ?_
  refine V.getf aX5_begin_5 fl_RX5_121 hx rfl ?_
  refine V.aald aX5_begin_8 p2 p10.1 (show sv < 5 by omega) ?_
  rw [show harr h sv = some (h sv).1 from if_pos ⟨p10.1, by omega⟩]
  refine V.ald0 aX5_begin_9 ?_
  refine V.getf aX5_begin_10 fl_RX5_12 hx rfl ?_
  refine call_X4_copyFrom aX5_begin_13 gl_RX5_124 ok4 (p7 sv p10.1 (by omega)).1.1 (Nat.le_of_ble_eq_true rfl) (by decide) (fun r13 z13 m13 h13 => ?_)
  obtain ⟨rfl, rfl, g', hg, rfl⟩ := h13
  refine V.ret aX5_begin_16 rfl (by decide) ?_
  have x : ExtB (h sv).1 m (BM m (h sv).1 b.1 g') := fun a _ ha => BM_n ha
  have hB : t0 < (h sv).1 ∧ (h sv).1 + 22 ≤ Z := by omega
  have us := u1.extB x hB
  have us2 : Use Z t0 (BM m (h sv).1 b.1 g') C (b.1, g') := ⟨us.1.gc u1.2.N hg, u1.2⟩
  refine ⟨rfl, rfl, fun a ha => BM_n (by omega), g', ⟨p0.his ⟨p10.1, by omega⟩ x ⟨Blk.of, (p5.2.extB x hB.2).gc hg⟩, us, fun q => (u2 q).extB x hB, fun i i0 i1 => ?_⟩, us2⟩
  rw [upI_n (by omega)]
  exact (u3 i i0 i1).extB x hB
def ordersR (X Z t0 : Nat) (mb : Mem) (C : Int) (s : Int → Int) (h : Int → Nat × BS) (c : BS) (sv ish : Int) (tx : Int → Int) (ln : Int) (sz : Nat) : PO := fun ret z m' => match ordsP tx ln 100 s 0 with
  | none => undone X Z t0 mb C s h c sv ish tx ln (-3) sz ret z m'
  | some t => s 5 ≤ t 5 ∧ done X Z t0 mb C t s h c sv ish tx ln (t 5 - s 5) sz ret z m'
theorem ok5_orders (p : PQ m X Z t0 mb C b h c sv ish tx ln) (hC : C + 21 ≤ 20000) (hG : G.2.2.2 = t0) (hsz : Z ≤ sz) : Ok G kX5_readOrders 6 [.inr (some X)] sz m 107 1118 (fun ret z m' => ((txtP tx ln 100 Zr 0).1 = 0 → kept X Z t0 mb C b h c sv ish tx ln (-100 - (txtP tx ln 100 Zr 0).2.1) sz ret z m') ∧ ((txtP tx ln 100 Zr 0).1 = 1 → ordersR X Z t0 mb (C + 21) b.1 h c sv ish tx ln sz ret z m')) := by
  refine Ok.body [some (.inr (some X)), none, none, none, none] rfl (Nat.le_of_ble_eq_true rfl) (by decide) ?_
  have hs := p.sv_b
  have p9 := p.1.2.2.2.2.2.2.2.2.1
  have p10 := p.1.2.2.2.2.2.2.2.2.2.1
  have p12 := p.1.2.2.2.2.2.2.2.2.2.2.2
  obtain ⟨h0, hz0⟩ := p.1.2.2.2.1
  have tb := txtP_b (tx := tx) (ln := ln) 100 Zr 0 p12.1
  refine V.knowS (fun hu _ => ?_)
  have loop : ∀ (n : Nat) (sp : Int) (f : Int → Option Nat) (g2 : Int → Option Nat), (1 ≤ n ∧ n ≤ 21) → (txtP tx ln 100 Zr 0).1 = 1 → (∀ i : Nat, i + 1 < n → seesP tx ln (ordE tx ln (posP tx ln i)) 59 59) → ¬ seesP tx ln (ordE tx ln (posP tx ln (n - 1))) 59 59 → ∀ (fu i : Nat) (M : Mem) (si : Int → Int) (gi : Int → Option Nat) (z k q : Nat) (y : Option AV), fu = n - i → i ≤ n → sz ≤ z → k = 65 + 2 * i → q = 698 + 20 * i → PQ M X Z t0 mb (C + i) (si, gi) (upI h sv ((h sv).1, (b.1, g2))) c sv ish tx ln → Use Z t0 M (C + i) (b.1, g2) → M sz = obj 3 (robj (X + 156) ln sz n sp) → M (sz + 1) = rar 0 21 f → FoundR Z t0 M tx ln f n → b.1 5 ≤ si 5 → (i < n → ordsP tx ln 100 b.1 0 = ordsP tx ln (100 - i) si (posP tx ln i)) → (i = n → ordsP tx ln 100 b.1 0 = some si) → V G kX5_readOrders (rmM 6 107 1118) (QfM G (fun ret z m' => ((txtP tx ln 100 Zr 0).1 = 0 → kept X Z t0 mb C b h c sv ish tx ln (-100 - (txtP tx ln 100 Zr 0).2.1) sz ret z m') ∧ ((txtP tx ln 100 Zr 0).1 = 1 → ordersR X Z t0 mb (C + 21) b.1 h c sv ish tx ln sz ret z m')) 107 1118) 45 [some (.inr (some X)), some (.inr (some sz)), some (.inl (b.1 5)), some (.inl (i : Int)), y] [] z M k q := by
    intro n sp f g2 hn htx hse hns fu
    induction fu with
    | zero =>
      intro i M si gi z k q y hfu hin hzz hk hq pq us hr hrf hF h5 ho1 ho2
      have hi : i = n := by omega
      have hcost : k ≤ 107 ∧ q ≤ 1118 := by omega
      have eR : RM M sz (X + 156) ln n sp f = M := (RM_ext hr hrf (fun a _ _ => rfl)).symm
      have eb := pq.1.2.2.2.2.1.1.eq
      have hx : (BM M (X + 1) si gi) X = obj 5 (xobj X sv ish ln) := (BM_n (Or.inl (by omega))).trans pq.1.1
      have hn5 := pq.2.1.2.num
      have hnb := p.2.1.2.num
      dsimp only at hn5
      refine V.ild3 aX5_readOrders_45 ?_
      refine V.ald1 aX5_readOrders_46 ?_
      refine V.mem (m2 := RM M sz (X + 156) ln n sp f) eR ?_
      refine V.getf aX5_readOrders_47 fl_RX5_91 RM_o rfl ?_
      refine V.icmp_ge aX5_readOrders_50 (tgt := 92) (by decide) (fun c50 => ?_) (fun c50 => ?_)
      · refine V.mem (m2 := BM M (X + 1) si gi) (eb.symm.trans eR.symm) ?_
        refine V.ald0 aX5_readOrders_92 ?_
        refine V.ald0 aX5_readOrders_93 ?_
        refine V.getf aX5_readOrders_94 fl_RX5_12 hx rfl ?_
        refine U.gfS aX5_readOrders_97 fl_RX5_88 rfl ?_
        refine V.ild2 aX5_readOrders_100 ?_
        refine V.isub aX5_readOrders_101 (by omega) ?_
        refine V.mem (m2 := M) eb ?_
        refine V.endS aX5_readOrders_102 gl_RX5_50 pq (by rw [upI_s]; exact us) (by show 0 ≤ si 5 - b.1 5; omega) (Nat.le_of_ble_eq_true rfl) ⟨by decide, by show k + 0 ≤ 107; omega, by show q + 0 ≤ 1118; omega⟩ (fun m3 h3 q3 q4 => ?_)
        refine V.iret aX5_readOrders_105 rfl hcost ?_
        refine ⟨fun g => absurd (htx.symm.trans g) (by decide), fun _ => ?_⟩
        unfold ordersR
        rw [ho2 hi]
        refine ⟨h5, rfl, hzz, gi, h3, q3.mono (by omega), fun j j0 j1 => ?_⟩
        rw [q4 j j0 j1, upI_s, recR_up hs j0]
      · exfalso
        omega
    | succ fu ih =>
      intro i M si gi z k q y hfu hin hzz hk hq pq us hr hrf hF h5 ho1 ho2
      have hi : i < n := by omega
      obtain ⟨e, hfe, hA⟩ := hF i hi
      have eR : RM M sz (X + 156) ln n sp f = M := (RM_ext hr hrf (fun a _ _ => rfl)).symm
      have eb := pq.1.2.2.2.2.1.1.eq
      have hn5 := pq.2.1.2.num
      have hI : Inv (C + i) si := pq.2.1.2
      obtain ⟨w, hwd⟩ : ∃ w, w = ordW tx ln (posP tx ln i) := ⟨_, rfl⟩
      rw [← hwd] at hA
      have hords := ho1 hi
      rw [show 100 - i = (100 - (i + 1)) + 1 by omega, ordsP_s (s := si), ← hwd] at hords
      have hm5 := doS_5 (cl := Zr) hI.N hI.E hI.C hA.ok hA.pg
      have hk2 := (doMk_ok (s := si) (cl := Zr) (mk := w) hI.C hA.ok hA.pg).2.1
      rw [show (0 : Int) + 1 = 1 from rfl] at hk2
      refine V.ild3 aX5_readOrders_45 ?_
      refine V.ald1 aX5_readOrders_46 ?_
      refine V.mem (m2 := RM M sz (X + 156) ln n sp f) eR ?_
      refine V.getf aX5_readOrders_47 fl_RX5_91 RM_o rfl ?_
      refine V.icmp_ge aX5_readOrders_50 (tgt := 92) (by decide) (fun c50 => ?_) (fun c50 => ?_)
      · exfalso
        omega
      · refine V.ald1 aX5_readOrders_53 ?_
        refine V.ild3 aX5_readOrders_54 ?_
        refine call_X3_order aX5_readOrders_55 gl_RX5_94 (ok_order (by omega)) (RM_o) (Nat.le_of_ble_eq_true rfl) ⟨by decide, by show k + 0 ≤ 107; omega, by show q + 0 ≤ 1118; omega⟩ (goR ?_)
        refine V.mem (m2 := M) eR.symm ?_
        rw [hfe]
        refine V.ast4 aX5_readOrders_58 ?_
        refine V.ald4 aX5_readOrders_60 ?_
        refine V.ifnull aX5_readOrders_62 (tgt := 86) (by decide) (fun c62 => ?_) (fun v62 c62 => ?_)
        · cases c62
        · refine V.ald0 aX5_readOrders_65 ?_
          refine V.getf aX5_readOrders_66 fl_RX5_12 pq.1.1 rfl ?_
          refine V.ald4 aX5_readOrders_69 ?_
          refine V.mem (m2 := BM M (X + 1) si gi) eb.symm ?_
          refine call_X4_carryOut aX5_readOrders_71 gl_RX5_46 (ok_carry hA hI (by omega) pq.2.1.1 pq.1.2.2.2.2.1.2 ⟨by omega, by omega⟩ (by omega)) (BM_S) (Nat.le_of_ble_eq_true rfl) ⟨by decide, by show k + 2 ≤ 107; omega, by show q + 20 ≤ 1118; omega⟩ (fun r71 z71 m71 h71 => ?_)
          obtain ⟨hz71, hpc⟩ := h71
          by_cases hf : fits1 si (doMk si Zr w)
          · rw [if_pos hf] at hpc hords
            obtain ⟨rfl, m4, g4, hx4, rfl, tR, tS⟩ := hpc
            have pa := pq.act (m1 := m4) (D := C + i + 1) hx4 tR tS (hI.does Zr (by omega) hA.ok hA.pg) (by omega)
            have y1 : ExtB (X + 1) M (BM m4 (X + 1) (doS si Zr w) g4) := fun a ha h1 => by rw [BM_n h1]; exact hx4 a ha
            refine V.bipush aX5_readOrders_74 (by decide) (by decide) ?_
            refine V.icmp_ne aX5_readOrders_76 (tgt := 86) (by decide) (fun _ => ?_) (fun g => absurd g (by omega))
            refine V.inc3 aX5_readOrders_86 (by omega) ?_
            refine V.goto aX5_readOrders_89 (tgt := 45) (by decide) ?_
            have ec : (i : Int) + 1 = ((i + 1 : Nat) : Int) := by omega
            rw [Int.add_assoc, ec] at pa
            rw [ec]
            refine ih (i + 1) _ (doS si Zr w) g4 z71 _ _ _ (by omega) (by omega) (by omega) (by omega) (by omega) pa ((us.extB y1 (by omega)).mono (by omega)) ((BM_n (Or.inr (by omega))).trans (hx4.at hr obj_nu)) ((BM_n (Or.inr (by omega))).trans (hx4.at hrf rar_nu)) (foundR_far (hF.ext hx4) (fun a ha _ => BM_n (by omega))) (by omega) (fun hi2 => ?_) (fun hi2 => ?_)
            · rw [if_pos (hse i hi2)] at hords
              exact hords
            · have e1 : n - 1 = i := by omega
              rw [e1] at hns
              rw [if_neg hns] at hords
              exact hords
          · rw [if_neg hf] at hpc hords
            obtain ⟨rfl, m4, s4, g4, hx4, rfl⟩ := hpc
            refine V.bipush aX5_readOrders_74 (by decide) (by decide) ?_
            refine V.icmp_ne aX5_readOrders_76 (tgt := 86) (by decide) (fun g => absurd rfl g) (fun _ => ?_)
            refine V.ald0 aX5_readOrders_79 ?_
            refine V.bipush aX5_readOrders_80 (by decide) (by decide) ?_
            refine V.endF aX5_readOrders_82 gl_RX5_50 pq (by rw [upI_s]; exact us) hx4 (by decide) (Nat.le_of_ble_eq_true rfl) ⟨by decide, by show k + 2 + 0 ≤ 107; omega, by show q + 20 + 0 ≤ 1118; omega⟩ (fun m3 g3 q3 => ?_)
            refine V.iret aX5_readOrders_85 rfl (by show k + 2 ≤ 107 ∧ q + 20 ≤ 1118; omega) ?_
            rw [upI_s] at q3
            refine ⟨fun g => absurd (htx.symm.trans g) (by decide), fun _ => ?_⟩
            unfold ordersR
            rw [hords]
            exact ⟨rfl, by omega, g3, _, q3.mono (by omega), fun j j0 j1 => by rw [upI_n (by omega)]⟩
          skip
  obtain ⟨ro, hro⟩ : ∃ ro : List AV, ro = [.inr none, .inl 0, .inr none, .inl 0, .inl 0] := ⟨_, rfl⟩
  have hX0 : (upM m sz (obj 3 [.inr none, .inl 0, .inr none, .inl 0, .inl 0])) X = obj 5 (xobj X sv ish ln) := by rw [upM_n (by omega)]; exact p.1.1
  obtain ⟨mB, hmB⟩ : ∃ mB, mB = RM (upM m sz (obj 3 [.inr none, .inl 0, .inr none, .inl 0, .inl 0])) sz (X + 156) ln 0 0 (fun _ => none) := ⟨_, rfl⟩
  have hBn : ∀ a, a ≠ sz → a ≠ sz + 1 → mB a = m a := fun a a0 a1 => by rw [hmB, RM_n ⟨a0, a1⟩, upM_n a0]
  have hB3 : mB sz = obj 3 (robj (X + 156) ln sz 0 0) := by rw [hmB]; exact RM_o
  have hB4 : mB (sz + 1) = rar 0 21 (fun _ => none) := by rw [hmB]; exact RM_f
  have hxB : Ext m mB := fun a ha => hBn a (fun q => ha (by rw [q]; exact hu _ (Nat.le_refl _))) (fun q => ha (by rw [q]; exact hu _ (by omega)))
  have eB : RM mB sz (X + 156) ln 0 0 (fun _ => none) = mB := (RM_ext hB3 hB4 (fun a _ _ => rfl)).symm
  have hBX : mB (X + 156) = car 60 tx := hxB.at p.1.2.2.1 car_nu
  have hBz : mB t0 = iar 0 h0 := hxB.at hz0 iar_nu
  have hnb := p.2.1.2.num
  refine V.new aX5_readOrders_0 nl_RX5_72 (by decide) ?_
  refine V.dup aX5_readOrders_3 ?_
  refine V.ald0 aX5_readOrders_4 ?_
  refine V.getf aX5_readOrders_5 fl_RX5_23 hX0 rfl ?_
  refine V.ald0 aX5_readOrders_8 ?_
  refine V.getf aX5_readOrders_9 fl_RX5_74 hX0 rfl ?_
  refine call_X3_init aX5_readOrders_12 gl_RX5_78 (ok_init3 upM_s) (Nat.le_of_ble_eq_true rfl) (by decide) (goV ?_)
  rw [← hmB]
  refine V.ast1 aX5_readOrders_15 ?_
  refine V.ald1 aX5_readOrders_16 ?_
  refine V.mem (m2 := RM mB sz (X + 156) ln 0 0 (fun _ => none)) eB ?_
  refine call_X3_readAll aX5_readOrders_17 gl_RX5_81 (ok_readAll (Z := Z) hBX (by omega) ⟨p12.1, p12.2.1⟩ hG hBz (by omega) ⟨Nat.le_refl _, by omega⟩ hB3 hB4) (RM_o) (Nat.le_of_ble_eq_true rfl) (by decide) (fun r17 z17 m17 h17 => ?_)
  obtain ⟨hz17, rfl, m1, n, f, hx1, rfl, hRA⟩ := h17
  obtain ⟨mC, hmC⟩ : ∃ mC, mC = RM m1 sz (X + 156) ln n (txtP tx ln 100 Zr 0).2.1 f := ⟨_, rfl⟩
  have hCn : ∀ a, a ≠ sz → a ≠ sz + 1 → mC a = m1 a := fun a a0 a1 => by rw [hmC, RM_n ⟨a0, a1⟩]
  have hC3 : mC sz = obj 3 (robj (X + 156) ln sz n (txtP tx ln 100 Zr 0).2.1) := by rw [hmC]; exact RM_o
  have hC4 : mC (sz + 1) = rar 0 21 f := by rw [hmC]; exact RM_f
  have hxC : Ext m mC := fun a ha => by
    have a0 : a ≠ sz := fun q => ha (by rw [q]; exact hu _ (Nat.le_refl _))
    have a1 : a ≠ sz + 1 := fun q => ha (by rw [q]; exact hu _ (by omega))
    rw [hCn a a0 a1]
    exact (hxB.tr hx1) a ha
  have pC := p.ext hxC
  refine V.mem (m2 := mC) hmC ?_
  refine V.if_ne aX5_readOrders_20 (tgt := 31) (by decide) (fun c20 => ?_) (fun c20 => ?_)
  · have ht01 := txtP_01 (tx := tx) (ln := ln) 100 Zr 0
    have htx : (txtP tx ln 100 Zr 0).1 = 1 := by omega
    obtain ⟨hn, hF, hse, hns⟩ := hRA htx
    have hFC : FoundR Z t0 mC tx ln f n := foundR_far hF (fun a _ hv => hCn a (fun q => by
      have := hx1.at hB3 obj_nu
      rw [← q] at this
      rcases hv with ⟨fs, hv⟩ | ⟨nv, vf, hv⟩
      · rw [this] at hv; cases hv
      · rw [this] at hv; cases hv) (fun q => by
      have := hx1.at hB4 rar_nu
      rw [← q] at this
      rcases hv with ⟨fs, hv⟩ | ⟨nv, vf, hv⟩
      · rw [this] at hv; cases hv
      · rw [this] at hv; cases hv))
    refine V.ald0 aX5_readOrders_31 ?_
    refine call_X5_begin aX5_readOrders_32 gl_RX5_37 (ok_beginZ pC) pC.1.1 (Nat.le_of_ble_eq_true rfl) (by decide) (fun r32 z32 m32 h32 => ?_)
    obtain ⟨rfl, rfl, hf32, g2, q1, q2⟩ := h32
    have eb := q1.1.2.2.2.2.1.1.eq
    have hx : (BM m32 (X + 1) b.1 b.2) X = obj 5 (xobj X sv ish ln) := (BM_n (Or.inl (by omega))).trans q1.1.1
    refine V.mem (m2 := BM m32 (X + 1) b.1 b.2) eb.symm ?_
    refine V.ald0 aX5_readOrders_35 ?_
    refine V.getf aX5_readOrders_36 fl_RX5_12 hx rfl ?_
    refine U.gfS aX5_readOrders_39 fl_RX5_88 rfl ?_
    refine V.ist2 aX5_readOrders_42 ?_
    refine V.mem (m2 := m32) eb ?_
    refine V.iconst aX5_readOrders_43 (by decide) ?_
    refine V.ist3 aX5_readOrders_44 ?_
    exact loop n _ f g2 hn htx hse hns n 0 m32 b.1 b.2 _ _ _ _ rfl (by omega) (by omega) rfl rfl (by rw [show C + ((0 : Nat) : Int) = C by omega]; exact q1) (by rw [show C + ((0 : Nat) : Int) = C by omega]; exact q2) ((hf32 _ (Or.inr (by omega))).trans hC3) ((hf32 _ (Or.inr (by omega))).trans hC4) (foundR_far hFC (fun a ha _ => hf32 a (by omega))) (Int.le_refl _) (fun _ => rfl) (fun g => by omega)
  · refine V.bipush aX5_readOrders_23 (by decide) (by decide) ?_
    refine V.ald1 aX5_readOrders_25 ?_
    refine V.getf aX5_readOrders_26 fl_RX5_85 hC3 rfl ?_
    refine V.isub aX5_readOrders_29 (by omega) ?_
    refine V.iret aX5_readOrders_30 rfl (by decide) ?_
    exact ⟨fun _ => ⟨rfl, by omega, pC⟩, fun g => absurd (c20.symm.trans g) (by decide)⟩
end
