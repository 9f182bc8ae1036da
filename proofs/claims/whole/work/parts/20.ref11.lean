-- the reference's methods: contracts (part eleven): the page as of an entry, a text, what an order does
abbrev asA (s : Int → Int) (p e : Int) : Prop := asFr s p e = -5 ∧ (e + 1 < s (152 + p) ∨ s (152 + p) ≤ s (164 + p))
abbrev asBad (s : Int → Int) (p e : Int) : Prop := ∃ j, asSt s p e ≤ j ∧ j ≤ e ∧ ofE s j 0 = p ∧ ofE s j 4 = 1
theorem asFr_b {s : Int → Int} {p a : Int} : ∀ k, s 2 ≤ k → foldI (asFrF s p) (-5) (s 2) k = -5 ∨ (s 2 ≤ foldI (asFrF s p) (-5) (s 2) k ∧ foldI (asFrF s p) (-5) (s 2) k < k) := by
  intro k hk
  refine foldI_ind (f := asFrF s p) (fun k x => x = -5 ∨ (s 2 ≤ x ∧ x < k)) (Or.inl rfl) (fun k x g0 g1 => ?_) k hk
  unfold asFrF
  split <;> omega
theorem txtP_s {tx : Int → Int} {ln : Int} {f : Nat} {w : Int → Int} {sp : Int} : txtP tx ln (f + 1) w sp = if (ordP tx ln w sp).1 = 0 then (0, (ordP tx ln w sp).2.1, (ordP tx ln w sp).2.2) else if seesP tx ln (ordP tx ln w sp).2.1 59 59 then txtP tx ln f (ordP tx ln w sp).2.2 ((ordP tx ln w sp).2.1 + 1) else (if (ordP tx ln w sp).2.1 = ln then 1 else 0, (ordP tx ln w sp).2.1, (ordP tx ln w sp).2.2) := rfl
def doCl (s cl mk : Int → Int) : Int → Int := if mk 1 = 0 then renCl s cl (mk 0) else chCl s cl mk
def doBf (s cl bf mk : Int → Int) : Int → Int := if mk 1 = 0 then bf else chBf s cl bf mk
def doMk (s cl mk : Int → Int) : Int → Int := if mk 1 = 0 then renMk s cl mk (mk 0) else chMk s cl mk
def doS (s cl mk : Int → Int) : Int → Int := if fits1 s (doMk s cl mk) then logsF s (doCl s cl mk) (doMk s cl mk) else s
theorem doMk_ok {s cl mk : Int → Int} (hC : CellS s) (hM : mk 1 ≠ 0 → entOK mk 0) (hp : 0 ≤ mk 0 ∧ mk 0 < 6) : entOK (doMk s cl mk) 0 := by
  unfold doMk
  split
  · exact picF_ok hp (hold_b hC (Or.inl rfl) hp cl)
  · exact chMk_ok hC (hM (by assumption))
section
variable {G : GX} {sz : Nat} {m : Mem} {o : Nat} {s sp pa sh tx cl bf mk : Int → Int} {sv ish ln st : Int}
theorem asF_b {p : Int} {s : Int → Int} (hE : EntS s) {c : Int → Int} {k : Int} (h1 : s 2 ≤ k) (h2 : k < s 3) (hc : ∀ j, 0 ≤ j → j < 12 → 0 ≤ c j ∧ c j ≤ 9) : ∀ j, 0 ≤ j → j < 12 → 0 ≤ asF s p c k j ∧ asF s p c k j ≤ 9 := by
  unfold asF
  split
  · exact applyF_b (hE k h1 h2) hc
  · exact hc
theorem ok_asOf1 {p e c : Int} (hN : Num s) (h : ¬ (0 ≤ p ∧ p ≤ 5 ∧ s 2 ≤ e ∧ e ≤ s 3 - 1 ∧ 0 ≤ c ∧ c ≤ 11)) : Ok G kX6_asOf 8 [.inr (some o), .inl p, .inl e, .inl c] sz (MM m o s sp pa sv sh ish tx ln cl bf mk st) 0 0 (PX m o (-1) sz s pa sv sh ish tx ln) := by
  refine Ok.body [some (.inr (some o)), some (.inl p), some (.inl e), some (.inl c), none, none, none, none] rfl (Nat.le_of_ble_eq_true rfl) (by decide) ?_
  obtain ⟨n0, n1, n2, n3, n4⟩ := id hN
  refine V.ild1 aX6_asOf_0 ?_
  refine call_X6_isPage aX6_asOf_1 gl_RX6_125 (ok_isPage) (Nat.le_of_ble_eq_true rfl) (by decide) (goI ?_)
  refine V.ifb_eq aX6_asOf_4 (tgt := 22) (by decide) (fun c4 => ?_) (fun c4 => ?_)
  · refine V.iconst aX6_asOf_22 (by decide) ?_
    refine V.iret aX6_asOf_23 rfl (by decide) ?_
    exact PX.of rfl rfl rfl rfl rfl rfl rfl rfl
  · refine V.ald0 aX6_asOf_7 ?_
    refine V.ild2 aX6_asOf_8 ?_
    refine call_X6_isHeld aX6_asOf_9 gl_RX6_174 (ok_isHeld (by omega) (by omega) (by omega)) (MM_o) (Nat.le_of_ble_eq_true rfl) (by decide) (goI ?_)
    refine V.ifb_eq aX6_asOf_12 (tgt := 22) (by decide) (fun c12 => ?_) (fun c12 => ?_)
    · refine V.iconst aX6_asOf_22 (by decide) ?_
      refine V.iret aX6_asOf_23 rfl (by decide) ?_
      exact PX.of rfl rfl rfl rfl rfl rfl rfl rfl
    · refine V.ild3 aX6_asOf_15 ?_
      refine call_X6_isCell aX6_asOf_16 gl_RX6_128 (ok_isCell) (Nat.le_of_ble_eq_true rfl) (by decide) (goI ?_)
      refine V.ifb_ne aX6_asOf_19 (tgt := 24) (by decide) (fun c19 => ?_) (fun c19 => ?_)
      · omega
      · refine V.iconst aX6_asOf_22 (by decide) ?_
        refine V.iret aX6_asOf_23 rfl (by decide) ?_
        exact PX.of rfl rfl rfl rfl rfl rfl rfl rfl
theorem ok_asOf2 {p e c : Int} (hN : Num s) (hE : EntS s) (hC : CellS s) (h : 0 ≤ p ∧ p ≤ 5 ∧ s 2 ≤ e ∧ e ≤ s 3 - 1 ∧ 0 ≤ c ∧ c ≤ 11) (hP : 0 ≤ s (152 + p) ∧ s (152 + p) ≤ s 4) (h4 : s (164 + p) = -5 ∨ (0 ≤ s (164 + p) ∧ s (164 + p) < s 2)) {z : Int} (hz1 : asA s p e → z = -4) (hz2 : ¬ asA s p e → asBad s p e → z = -4) (hz3 : ¬ asA s p e → ¬ asBad s p e → z = asZ s cl p e c) : Ok G kX6_asOf 8 [.inr (some o), .inl p, .inl e, .inl c] sz (MM m o s sp pa sv sh ish tx ln cl bf mk st) 0 0 (PX m o z sz s pa sv sh ish tx ln) := by
  refine Ok.body [some (.inr (some o)), some (.inl p), some (.inl e), some (.inl c), none, none, none, none] rfl (Nat.le_of_ble_eq_true rfl) (by decide) ?_
  obtain ⟨n0, n1, n2, n3, n4⟩ := id hN
  have hfr := asFr_b (a := 0) (s := s) (p := p) (e + 1) (by omega)
  rw [show foldI (asFrF s p) (-5) (s 2) (e + 1) = asFr s p e from rfl] at hfr
  have hst : s 2 ≤ asSt s p e := by
    unfold asSt
    repeat' split
    all_goals omega
  have hst2 : ¬ asA s p e → asSt s p e ≤ e + 1 := by
    unfold asA asSt
    intro hA
    repeat' split
    all_goals omega
  have loop2 : ∀ (n : Nat) (k : Int) (q bf' : Int → Int) (w : Option AV), (e + 1 - k).toNat < n → asSt s p e ≤ k → k ≤ e + 1 → ¬ asA s p e → (∀ j, asSt s p e ≤ j → j < k → ¬ (ofE s j 0 = p ∧ ofE s j 4 = 1)) → (∀ j, 0 ≤ j → j < 12 → 0 ≤ q j ∧ q j ≤ 9) → q = foldI (asF s p) (cpy s (80 + 12 * p) cl 0 12) (asSt s p e) k → V G kX6_asOf (rmM 8 0 0) (QfM G (PX m o z sz s pa sv sh ish tx ln) 0 0) 170 [some (.inr (some o)), some (.inl p), some (.inl e), some (.inl c), some (.inl (asFr s p e)), some (.inl (s (152 + p))), w, some (.inl k)] [] sz (MM m o s sp pa sv sh ish tx ln q bf' mk st) 0 0 := by
    intro n
    induction n with
    | zero => intro k q bf' w h; omega
    | succ n ih =>
      intro k q bf' w hn hk1 hk2 hA hb hqb hq
      have es : asSt s p e ≤ k → foldI (asF s p) (cpy s (80 + 12 * p) cl 0 12) (asSt s p e) (k + 1) = asF s p q k := fun hh => by rw [foldI_s hh, ← hq]
      refine V.ild7 aX6_asOf_170 ?_
      refine V.ild2 aX6_asOf_172 ?_
      refine V.icmp_gt aX6_asOf_173 (tgt := 221) (by decide) (fun c173 => ?_) (fun c173 => ?_)
      · refine V.ald0 aX6_asOf_221 ?_
        refine M.gf aX6_asOf_222 fl_RX6_26 rfl ?_
        refine V.ild3 aX6_asOf_225 ?_
        refine M.ldcl aX6_asOf_226 (by omega) ?_
        refine V.iret aX6_asOf_227 rfl (by decide) ?_
        refine PX.of ?_ rfl rfl rfl rfl rfl rfl rfl
        rw [hz3 hA (fun ⟨j, j0, j1, j2, j3⟩ => hb j j0 (by omega) ⟨j2, j3⟩), hq, show k = e + 1 by omega]
        rfl
      · refine V.ald0 aX6_asOf_176 ?_
        refine V.ild7 aX6_asOf_177 ?_
        refine V.iconst aX6_asOf_179 (by decide) ?_
        refine call_X6_of aX6_asOf_180 gl_RX6_66 (ok_of (by omega) (by omega) (by omega) (by omega) (by omega)) (MM_o) (Nat.le_of_ble_eq_true rfl) (by decide) (goI ?_)
        refine V.ild1 aX6_asOf_183 ?_
        refine V.icmp_ne aX6_asOf_184 (tgt := 215) (by decide) (fun c184 => ?_) (fun c184 => ?_)
        · refine V.inc7 aX6_asOf_215 (by omega) ?_
          refine V.goto aX6_asOf_218 (tgt := 170) (by decide) ?_
          refine ih (k + 1) _ _ _ (by omega) (by omega) (by omega) hA (fun j j0 j1 jj => ?_) ?_ ?_
          · by_cases ej : j = k
            · subst ej; omega
            · exact hb j j0 (by omega) jj
          · first | exact hqb | exact applyF_b (hE k (by omega) (by omega)) hqb
          · rw [es hk1]
            unfold asF
            first | rw [if_pos c184] | rw [if_neg c184]
        · refine V.ald0 aX6_asOf_187 ?_
          refine V.ild7 aX6_asOf_188 ?_
          refine V.iconst aX6_asOf_190 (by decide) ?_
          refine call_X6_of aX6_asOf_191 gl_RX6_66 (ok_of (by omega) (by omega) (by omega) (by omega) (by omega)) (MM_o) (Nat.le_of_ble_eq_true rfl) (by decide) (goI ?_)
          refine V.iconst aX6_asOf_194 (by decide) ?_
          refine V.icmp_ne aX6_asOf_195 (tgt := 201) (by decide) (fun c195 => ?_) (fun c195 => ?_)
          · have hqb2 := asF_b (p := p) hE (k := k) (by omega) (by omega) hqb
            refine V.ald0 aX6_asOf_201 ?_
            refine V.ald0 aX6_asOf_202 ?_
            refine M.gf aX6_asOf_203 fl_RX6_7 rfl ?_
            refine V.ald0 aX6_asOf_206 ?_
            refine V.ild7 aX6_asOf_207 ?_
            refine call_X6_at aX6_asOf_209 gl_RX6_55 (ok_at (by omega) (by omega) (by omega)) (MM_o) (Nat.le_of_ble_eq_true rfl) (by decide) (goI ?_)
            refine call_X6_applies aX6_asOf_212 gl_RX6_87 (ok_applies (fun _ _ => MM_s) (by omega) (by omega) (by omega) (hE k (by omega) (by omega)) hqb) (MM_o) (Nat.le_of_ble_eq_true rfl) (by decide) (goV ?_)
            refine V.inc7 aX6_asOf_215 (by omega) ?_
            refine V.goto aX6_asOf_218 (tgt := 170) (by decide) ?_
            refine ih (k + 1) _ _ _ (by omega) (by omega) (by omega) hA (fun j j0 j1 jj => ?_) ?_ ?_
            · by_cases ej : j = k
              · subst ej; omega
              · exact hb j j0 (by omega) jj
            · first | exact hqb | exact applyF_b (hE k (by omega) (by omega)) hqb
            · rw [es hk1]
              unfold asF
              first | rw [if_pos c184] | rw [if_neg c184]
          · refine V.bipush aX6_asOf_198 (by decide) (by decide) ?_
            refine V.iret aX6_asOf_200 rfl (by decide) ?_
            exact PX.of (hz2 hA ⟨k, hk1, by omega, by omega, by omega⟩).symm rfl rfl rfl rfl rfl rfl rfl
  have tail : ¬ asA s p e → V G kX6_asOf (rmM 8 0 0) (QfM G (PX m o z sz s pa sv sh ish tx ln) 0 0) 123 [some (.inr (some o)), some (.inl p), some (.inl e), some (.inl c), some (.inl (asFr s p e)), some (.inl (s (152 + p))), none, none] [] sz (MM m o s sp pa sv sh ish tx ln cl bf mk st) 0 0 := by
    intro hA
    have hb := hold_b hC (Or.inr rfl) (p := p) (by omega) cl
    have go : ∀ x, x = asSt s p e → V G kX6_asOf (rmM 8 0 0) (QfM G (PX m o z sz s pa sv sh ish tx ln) 0 0) 170 [some (.inr (some o)), some (.inl p), some (.inl e), some (.inl c), some (.inl (asFr s p e)), some (.inl (s (152 + p))), some (.inl x), some (.inl x)] [] sz (MM m o s sp pa sv sh ish tx ln (cpy s (80 + 12 * p) cl 0 12) bf mk st) 0 0 := by
      intro x hx
      subst hx
      exact loop2 _ _ _ _ _ (Nat.lt_succ_self _) (Int.le_refl _) (hst2 hA) hA (fun j j0 j1 => by omega) hb (foldI_0 (Int.le_refl _)).symm
    refine V.ald0 aX6_asOf_123 ?_
    refine V.bipush aX6_asOf_124 (by decide) (by decide) ?_
    refine V.ild1 aX6_asOf_126 ?_
    refine call_X6_holds aX6_asOf_127 gl_RX6_83 (ok_holds (by omega) (by omega)) (MM_o) (Nat.le_of_ble_eq_true rfl) (by decide) (goV ?_)
    refine V.ild4 aX6_asOf_130 ?_
    refine V.bipush aX6_asOf_132 (by decide) (by decide) ?_
    refine V.icmp_eq aX6_asOf_134 (tgt := 142) (by decide) (fun c134 => ?_) (fun c134 => ?_)
    · refine V.ild5 aX6_asOf_142 ?_
      refine V.ald0 aX6_asOf_144 ?_
      refine M.gf aX6_asOf_145 fl_RX6_7 rfl ?_
      refine V.iconst aX6_asOf_148 (by decide) ?_
      refine M.lds aX6_asOf_149 (by omega) ?_
      refine V.icmp_le aX6_asOf_150 (tgt := 158) (by decide) (fun c150 => ?_) (fun c150 => ?_)
      · refine V.ald0 aX6_asOf_158 ?_
        refine M.gf aX6_asOf_159 fl_RX6_7 rfl ?_
        refine V.iconst aX6_asOf_162 (by decide) ?_
        refine M.lds aX6_asOf_163 (by omega) ?_
        refine V.ist6 aX6_asOf_164 ?_
        refine V.ild6 aX6_asOf_166 ?_
        refine V.ist7 aX6_asOf_168 ?_
        refine go _ ?_
        unfold asSt
        repeat' split
        all_goals omega
      · refine V.ild5 aX6_asOf_153 ?_
        refine V.goto aX6_asOf_155 (tgt := 164) (by decide) ?_
        refine V.ist6 aX6_asOf_164 ?_
        refine V.ild6 aX6_asOf_166 ?_
        refine V.ist7 aX6_asOf_168 ?_
        refine go _ ?_
        unfold asSt
        repeat' split
        all_goals omega
    · refine V.ild4 aX6_asOf_137 ?_
      refine V.goto aX6_asOf_139 (tgt := 164) (by decide) ?_
      refine V.ist6 aX6_asOf_164 ?_
      refine V.ild6 aX6_asOf_166 ?_
      refine V.ist7 aX6_asOf_168 ?_
      refine go _ ?_
      unfold asSt
      repeat' split
      all_goals omega
  have loop1 : ∀ (n : Nat) (k r : Int), (e + 1 - k).toNat < n → s 2 ≤ k → k ≤ e + 1 → r = foldI (asFrF s p) (-5) (s 2) k → V G kX6_asOf (rmM 8 0 0) (QfM G (PX m o z sz s pa sv sh ish tx ln) 0 0) 36 [some (.inr (some o)), some (.inl p), some (.inl e), some (.inl c), some (.inl r), some (.inl k), none, none] [] sz (MM m o s sp pa sv sh ish tx ln cl bf mk st) 0 0 := by
    intro n
    induction n with
    | zero => intro k r h; omega
    | succ n ih =>
      intro k r hn hk1 hk2 hr
      refine V.ild5 aX6_asOf_36 ?_
      refine V.ild2 aX6_asOf_38 ?_
      refine V.icmp_gt aX6_asOf_39 (tgt := 78) (by decide) (fun c39 => ?_) (fun c39 => ?_)
      · have ek : k = e + 1 := by omega
        subst ek
        have er : r = asFr s p e := hr
        subst er
        refine V.ald0 aX6_asOf_78 ?_
        refine M.gf aX6_asOf_79 fl_RX6_7 rfl ?_
        refine V.sipush aX6_asOf_82 (by decide) (by decide) ?_
        refine V.ild1 aX6_asOf_85 ?_
        refine V.iadd aX6_asOf_86 (by omega) ?_
        refine M.lds aX6_asOf_87 (by omega) ?_
        refine V.ist5 aX6_asOf_88 ?_
        refine V.ild4 aX6_asOf_90 ?_
        refine V.bipush aX6_asOf_92 (by decide) (by decide) ?_
        refine V.icmp_ne aX6_asOf_94 (tgt := 123) (by decide) (fun c94 => ?_) (fun c94 => ?_)
        · exact tail (by unfold asA; omega)
        · refine V.ild5 aX6_asOf_97 ?_
          refine V.ild2 aX6_asOf_99 ?_
          refine V.iconst aX6_asOf_100 (by decide) ?_
          refine V.iadd aX6_asOf_101 (by omega) ?_
          refine V.icmp_gt aX6_asOf_102 (tgt := 120) (by decide) (fun c102 => ?_) (fun c102 => ?_)
          · refine V.bipush aX6_asOf_120 (by decide) (by decide) ?_
            refine V.iret aX6_asOf_122 rfl (by decide) ?_
            exact PX.of (hz1 (by unfold asA; omega)).symm rfl rfl rfl rfl rfl rfl rfl
          · refine V.ald0 aX6_asOf_105 ?_
            refine M.gf aX6_asOf_106 fl_RX6_7 rfl ?_
            refine V.sipush aX6_asOf_109 (by decide) (by decide) ?_
            refine V.ild1 aX6_asOf_112 ?_
            refine V.iadd aX6_asOf_113 (by omega) ?_
            refine M.lds aX6_asOf_114 (by omega) ?_
            refine V.ild5 aX6_asOf_115 ?_
            refine V.icmp_lt aX6_asOf_117 (tgt := 123) (by decide) (fun c117 => ?_) (fun c117 => ?_)
            · exact tail (by unfold asA; omega)
            · refine V.bipush aX6_asOf_120 (by decide) (by decide) ?_
              refine V.iret aX6_asOf_122 rfl (by decide) ?_
              exact PX.of (hz1 (by unfold asA; omega)).symm rfl rfl rfl rfl rfl rfl rfl
      · refine V.ald0 aX6_asOf_42 ?_
        refine V.ild5 aX6_asOf_43 ?_
        refine V.iconst aX6_asOf_45 (by decide) ?_
        refine call_X6_of aX6_asOf_46 gl_RX6_66 (ok_of (by omega) (by omega) (by omega) (by omega) (by omega)) (MM_o) (Nat.le_of_ble_eq_true rfl) (by decide) (goI ?_)
        refine V.ild1 aX6_asOf_49 ?_
        refine V.icmp_ne aX6_asOf_50 (tgt := 68) (by decide) (fun c50 => ?_) (fun c50 => ?_)
        · refine V.ild4 aX6_asOf_68 ?_
          refine V.ist4 aX6_asOf_70 ?_
          refine V.inc5 aX6_asOf_72 (by omega) ?_
          refine V.goto aX6_asOf_75 (tgt := 36) (by decide) ?_
          refine ih (k + 1) _ (by omega) (by omega) (by omega) ?_
          rw [foldI_s (by omega), ← hr, asFrF]
          split <;> omega
        · refine V.ald0 aX6_asOf_53 ?_
          refine V.ild5 aX6_asOf_54 ?_
          refine V.iconst aX6_asOf_56 (by decide) ?_
          refine call_X6_of aX6_asOf_57 gl_RX6_66 (ok_of (by omega) (by omega) (by omega) (by omega) (by omega)) (MM_o) (Nat.le_of_ble_eq_true rfl) (by decide) (goI ?_)
          refine V.if_ne aX6_asOf_60 (tgt := 68) (by decide) (fun c60 => ?_) (fun c60 => ?_)
          · refine V.ild4 aX6_asOf_68 ?_
            refine V.ist4 aX6_asOf_70 ?_
            refine V.inc5 aX6_asOf_72 (by omega) ?_
            refine V.goto aX6_asOf_75 (tgt := 36) (by decide) ?_
            refine ih (k + 1) _ (by omega) (by omega) (by omega) ?_
            rw [foldI_s (by omega), ← hr, asFrF]
            split <;> omega
          · refine V.ild5 aX6_asOf_63 ?_
            refine V.goto aX6_asOf_65 (tgt := 70) (by decide) ?_
            refine V.ist4 aX6_asOf_70 ?_
            refine V.inc5 aX6_asOf_72 (by omega) ?_
            refine V.goto aX6_asOf_75 (tgt := 36) (by decide) ?_
            refine ih (k + 1) _ (by omega) (by omega) (by omega) ?_
            rw [foldI_s (by omega), ← hr, asFrF]
            split <;> omega
  refine V.ild1 aX6_asOf_0 ?_
  refine call_X6_isPage aX6_asOf_1 gl_RX6_125 (ok_isPage) (Nat.le_of_ble_eq_true rfl) (by decide) (goI ?_)
  refine V.ifb_eq aX6_asOf_4 (tgt := 22) (by decide) (fun c4 => ?_) (fun c4 => ?_)
  · omega
  · refine V.ald0 aX6_asOf_7 ?_
    refine V.ild2 aX6_asOf_8 ?_
    refine call_X6_isHeld aX6_asOf_9 gl_RX6_174 (ok_isHeld (by omega) (by omega) (by omega)) (MM_o) (Nat.le_of_ble_eq_true rfl) (by decide) (goI ?_)
    refine V.ifb_eq aX6_asOf_12 (tgt := 22) (by decide) (fun c12 => ?_) (fun c12 => ?_)
    · omega
    · refine V.ild3 aX6_asOf_15 ?_
      refine call_X6_isCell aX6_asOf_16 gl_RX6_128 (ok_isCell) (Nat.le_of_ble_eq_true rfl) (by decide) (goI ?_)
      refine V.ifb_ne aX6_asOf_19 (tgt := 24) (by decide) (fun c19 => ?_) (fun c19 => ?_)
      · refine V.bipush aX6_asOf_24 (by decide) (by decide) ?_
        refine V.ist4 aX6_asOf_26 ?_
        refine V.ald0 aX6_asOf_28 ?_
        refine M.gf aX6_asOf_29 fl_RX6_7 rfl ?_
        refine V.iconst aX6_asOf_32 (by decide) ?_
        refine M.lds aX6_asOf_33 (by omega) ?_
        refine V.ist5 aX6_asOf_34 ?_
        exact loop1 _ _ _ (Nat.lt_succ_self _) (by omega) (by omega) (foldI_0 (Int.le_refl _)).symm
      · omega
theorem ok_isText (h1 : 0 ≤ ln ∧ ln ≤ 60) : Ok G kX6_isText 5 [.inr (some o)] sz (MM m o s sp pa sv sh ish tx ln cl bf mk st) 0 0 (PI (txtP tx ln 100 mk 0).1 sz (MM m o s sp pa sv sh ish tx ln cl bf (txtP tx ln 100 mk 0).2.2 (txtP tx ln 100 mk 0).2.1)) := by
  refine Ok.body [some (.inr (some o)), none] rfl (Nat.le_of_ble_eq_true rfl) (by decide) ?_
  have fin : ∀ (x : Int) (w : Int → Int), txtP tx ln 100 mk 0 = (if x = ln then 1 else 0, x, w) → V G kX6_isText (rmM 5 0 0) (QfM G (PI (txtP tx ln 100 mk 0).1 sz (MM m o s sp pa sv sh ish tx ln cl bf (txtP tx ln 100 mk 0).2.2 (txtP tx ln 100 mk 0).2.1)) 0 0) 7 [some (.inr (some o)), some (.inl 0)] [] sz (MM m o s sp pa sv sh ish tx ln cl bf w x) 0 0 := by
    intro x w e
    refine V.ild1 aX6_isText_7 ?_
    refine V.if_eq aX6_isText_8 (tgt := 30) (by decide) (fun c8 => ?_) (fun c8 => ?_)
    · refine V.ald0 aX6_isText_30 ?_
      refine M.gf aX6_isText_31 fl_RX6_137 rfl ?_
      refine V.ald0 aX6_isText_34 ?_
      refine M.gf aX6_isText_35 fl_RX6_134 rfl ?_
      refine V.icmp_ne aX6_isText_38 (tgt := 45) (by decide) (fun c38 => ?_) (fun c38 => ?_)
      · refine V.iconst aX6_isText_45 (by decide) ?_
        refine V.zret aX6_isText_46 rfl (by first | decide | exact b2_01 | omega) (by decide) ?_
        rw [e]
        exact PI.of2 (by show _ = (if x = ln then (1 : Int) else 0); split <;> omega) rfl
      · refine V.iconst aX6_isText_41 (by decide) ?_
        refine V.goto aX6_isText_42 (tgt := 46) (by decide) ?_
        refine V.zret aX6_isText_46 rfl (by first | decide | exact b2_01 | omega) (by decide) ?_
        rw [e]
        exact PI.of2 (by show _ = (if x = ln then (1 : Int) else 0); split <;> omega) rfl
    · exfalso
      omega
      skip
  have loop : ∀ (f : Nat) (x : Int) (w : Int → Int), (ln - x).toNat < f → 0 ≤ x ∧ x ≤ ln → txtP tx ln 100 mk 0 = txtP tx ln f w x → V G kX6_isText (rmM 5 0 0) (QfM G (PI (txtP tx ln 100 mk 0).1 sz (MM m o s sp pa sv sh ish tx ln cl bf (txtP tx ln 100 mk 0).2.2 (txtP tx ln 100 mk 0).2.1)) 0 0) 7 [some (.inr (some o)), some (.inl 1)] [] sz (MM m o s sp pa sv sh ish tx ln cl bf w x) 0 0 := by
    intro f
    induction f with
    | zero => intro x w h; omega
    | succ f ih =>
      intro x w hf hx e
      have b := ordP_b (tx := tx) (ln := ln) (mk := w) (sp := x) hx.2
      have e01 := ordP_01 (tx := tx) (ln := ln) (mk := w) (sp := x)
      rw [txtP_s (f := f) (w := w) (sp := x)] at e
      refine V.ild1 aX6_isText_7 ?_
      refine V.if_eq aX6_isText_8 (tgt := 30) (by decide) (fun c8 => ?_) (fun c8 => ?_)
      · exfalso
        omega
      · refine V.ald0 aX6_isText_11 ?_
        refine call_X6_readsOrder aX6_isText_12 gl_RX6_162 (ok_readsOrder (by omega) (by omega)) (MM_o) (Nat.le_of_ble_eq_true rfl) (by decide) (goI ?_)
        refine V.if_ne aX6_isText_15 (tgt := 20) (by decide) (fun c15 => ?_) (fun c15 => ?_)
        · rw [if_neg c15] at e
          refine V.ald0 aX6_isText_20 ?_
          refine V.bipush aX6_isText_21 (by decide) (by decide) ?_
          refine call_X6_takes aX6_isText_23 gl_RX6_148 (ok_takes (by omega) (by omega)) (MM_o) (Nat.le_of_ble_eq_true rfl) (by decide) (goI ?_)
          refine V.ist1 aX6_isText_26 ?_
          refine V.goto aX6_isText_27 (tgt := 7) (by decide) ?_
          by_cases hs : seesP tx ln (ordP tx ln w x).2.1 59 59
          · rw [if_pos hs] at e
            rw [b2_t hs, if_pos hs]
            exact ih _ _ (by omega) (by omega) e
          · rw [if_neg hs] at e
            rw [b2_f hs, if_neg hs]
            exact fin _ _ e
        · refine V.iconst aX6_isText_18 (by decide) ?_
          refine V.zret aX6_isText_19 rfl (by first | decide | exact b2_01 | omega) (by decide) ?_
          rw [if_pos c15] at e
          rw [e]
          exact PI.of2 rfl rfl
  refine V.ald0 aX6_isText_0 ?_
  refine V.iconst aX6_isText_1 (by decide) ?_
  refine M.pfst aX6_isText_2 fl_RX6_137 ?_
  refine V.iconst aX6_isText_5 (by decide) ?_
  refine V.ist1 aX6_isText_6 ?_
  exact loop 100 0 mk (by omega) (by omega) rfl
theorem ok_does {B : Int} (hI : Inv B s) (hM : mk 1 ≠ 0 → entOK mk 0) (hp : 0 ≤ mk 0 ∧ mk 0 < 6) : Ok G kX6_does 7 [.inr (some o)] sz (MM m o s sp pa sv sh ish tx ln cl bf mk st) 0 0 (PI (b2 (fits1 s (doMk s cl mk))) sz (MM m o (doS s cl mk) sp pa sv sh ish tx ln (doCl s cl mk) (doBf s cl bf mk) (doMk s cl mk) st)) := by
  refine Ok.body [some (.inr (some o)), none] rfl (Nat.le_of_ble_eq_true rfl) (by decide) ?_
  have hn := hI.num
  have hM2 := doMk_ok (cl := cl) hI.C hM hp
  have tail : ∀ cl' bf' mk', cl' = doCl s cl mk → bf' = doBf s cl bf mk → mk' = doMk s cl mk → V G kX6_does (rmM 7 0 0) (QfM G (PI (b2 (fits1 s (doMk s cl mk))) sz (MM m o (doS s cl mk) sp pa sv sh ish tx ln (doCl s cl mk) (doBf s cl bf mk) (doMk s cl mk) st)) 0 0) 38 [some (.inr (some o)), none] [] sz (MM m o s sp pa sv sh ish tx ln cl' bf' mk' st) 0 0 := by
    intro cl' bf' mk' e1 e2 e3
    subst e1 e2 e3
    refine V.ald0 aX6_does_38 ?_
    refine call_X6_hasRoom aX6_does_39 gl_RX6_118 (ok_hasRoom hI.N hI.E hM2 (by omega)) (MM_o) (Nat.le_of_ble_eq_true rfl) (by decide) (goI ?_)
    by_cases hf : fits1 s (doMk s cl mk)
    · rw [b2_t hf]
      refine V.ist1 aX6_does_42 ?_
      refine V.ild1 aX6_does_43 ?_
      refine V.if_eq aX6_does_44 (tgt := 51) (by decide) (fun c44 => by omega) (fun c44 => ?_)
      refine V.ald0 aX6_does_47 ?_
      refine call_X6_logs aX6_does_48 gl_RX6_122 (ok_logs hI.N hI.E hM2 (by omega) (by omega) hf (fits_held hI.N hI.E hM2 (by omega) hf)) (MM_o) (Nat.le_of_ble_eq_true rfl) (by decide) (goV ?_)
      refine V.ild1 aX6_does_51 ?_
      refine V.zret aX6_does_52 rfl (by decide) (by decide) ?_
      exact PI.of2 rfl (by rw [show doS s cl mk = logsF s (doCl s cl mk) (doMk s cl mk) from if_pos hf])
    · rw [b2_f hf]
      refine V.ist1 aX6_does_42 ?_
      refine V.ild1 aX6_does_43 ?_
      refine V.if_eq aX6_does_44 (tgt := 51) (by decide) (fun c44 => ?_) (fun c44 => by omega)
      refine V.ild1 aX6_does_51 ?_
      refine V.zret aX6_does_52 rfl (by decide) (by decide) ?_
      exact PI.of2 rfl (by rw [show doS s cl mk = s from if_neg hf])
    skip
  refine V.ald0 aX6_does_0 ?_
  refine M.gf aX6_does_1 fl_RX6_32 rfl ?_
  refine V.iconst aX6_does_4 (by decide) ?_
  refine M.ldmk aX6_does_5 (by omega) ?_
  refine V.if_ne aX6_does_6 (tgt := 34) (by decide) (fun c6 => ?_) (fun c6 => ?_)
  · refine V.ald0 aX6_does_34 ?_
    refine call_X6_chooses aX6_does_35 gl_RX6_115 (ok_chooses hI.N hI.E hI.C (hM c6)) (MM_o) (Nat.le_of_ble_eq_true rfl) (by decide) (goV ?_)
    first
      | exact tail _ _ _ (by unfold doCl; rw [if_pos c6]; rfl) (by unfold doBf; rw [if_pos c6]) (by unfold doMk; rw [if_pos c6]; rfl)
      | exact tail _ _ _ (by unfold doCl; rw [if_neg c6]) (by unfold doBf; rw [if_neg c6]) (by unfold doMk; rw [if_neg c6])
  · refine V.ald0 aX6_does_9 ?_
    refine V.bipush aX6_does_10 (by decide) (by decide) ?_
    refine V.ald0 aX6_does_12 ?_
    refine M.gf aX6_does_13 fl_RX6_32 rfl ?_
    refine V.iconst aX6_does_16 (by decide) ?_
    refine M.ldmk aX6_does_17 (by omega) ?_
    refine call_X6_holds aX6_does_18 gl_RX6_83 (ok_holds (by omega) (by omega)) (MM_o) (Nat.le_of_ble_eq_true rfl) (by decide) (goV ?_)
    refine V.ald0 aX6_does_21 ?_
    refine V.ald0 aX6_does_22 ?_
    refine M.gf aX6_does_23 fl_RX6_32 rfl ?_
    refine V.iconst aX6_does_26 (by decide) ?_
    refine M.ldmk aX6_does_27 (by omega) ?_
    refine call_X6_pictures aX6_does_28 gl_RX6_98 (ok_pictures) (MM_o) (Nat.le_of_ble_eq_true rfl) (by decide) (goV ?_)
    refine V.goto aX6_does_31 (tgt := 38) (by decide) ?_
    first
      | exact tail _ _ _ (by unfold doCl; rw [if_pos c6]; rfl) (by unfold doBf; rw [if_pos c6]) (by unfold doMk; rw [if_pos c6]; rfl)
      | exact tail _ _ _ (by unfold doCl; rw [if_neg c6]) (by unfold doBf; rw [if_neg c6]) (by unfold doMk; rw [if_neg c6])
end

