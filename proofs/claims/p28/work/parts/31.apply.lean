-- an entry is applied to a row
theorem upM_upM {m : Mem} {a : Nat} {c d : AC} : upM (upM m a c) a d = upM m a d := by
  funext q
  unfold upM
  split <;> rfl
theorem upM_self {m : Mem} {a : Nat} {c : AC} (h : m a = c) : upM m a c = m := by
  funext q
  by_cases hq : q = a
  · subst hq; rw [upM_s, h]
  · rw [upM_n hq]
def revF (c : Int → Int) (a b : Int) : Int → Int := fun j => if a ≤ j ∧ j ≤ b then c (a + b - j) else c j
def vA (f : Int → Int) (a : Int) (old j : Int) : Int := if f (a + 1) = 0 then f (a + 5 + j) else if f (a + 1) = 1 then f (a + 5) else if f (a + 1) = 2 then (old + f (a + 5)) % 10 else f (a + 5 + j - f (a + 2))
theorem apply_pt {f : Int → Int} {a : Int} {c : Int → Int} (h3 : f (a + 1) ≠ 3) (hf : f (a + 1) = 0 → f (a + 2) = 0 ∧ f (a + 3) = 12) {j : Int} (hj : 0 ≤ j ∧ j < 12) : applyF f a c j = if f (a + 2) ≤ j ∧ j ≤ f (a + 2) + f (a + 3) - 1 then vA f a (c j) j else c j := by
  have e : ∀ n : Nat, (n : Int) ≤ 12 → foldI (appF f a c) c 0 n j = if j < n then (if f (a + 2) ≤ j ∧ j ≤ f (a + 2) + f (a + 3) - 1 then vA f a (c j) j else c j) else c j := by
    intro n
    induction n with
    | zero => intro _; rw [foldI_0 (by omega), if_neg (by omega)]
    | succ n ih =>
      intro hn
      have i1 := ih (by omega)
      rw [show ((n + 1 : Nat) : Int) = (n : Int) + 1 by omega, foldI_s (by omega)]
      generalize foldI (appF f a c) c 0 (n : Int) = X at i1 ⊢
      unfold appF
      by_cases hjn : j = n
      · subst hjn
        rw [if_neg (by omega)] at i1
        rw [if_pos (show (n : Int) < n + 1 by omega)]
        by_cases c0 : f (a + 1) = 0
        · have := hf c0
          rw [if_pos c0, upI_s, if_pos (by omega), vA, if_pos c0]
        · rw [if_neg c0, if_neg h3]
          by_cases cr : f (a + 2) ≤ (n : Int) ∧ (n : Int) ≤ f (a + 2) + f (a + 3) - 1
          · rw [if_pos cr, if_pos cr, upI_s, vA, if_neg c0]
          · rw [if_neg cr, if_neg cr]
            exact i1
      · have hX : ∀ v, upI X (n : Int) v j = X j := fun v => upI_n hjn
        have hres : (if f (a + 1) = 0 then upI X (n : Int) (f (a + 5 + n)) else if f (a + 1) = 3 then upI X (((n : Int) + f (a + 5)) % 12) (c n) else if f (a + 2) ≤ (n : Int) ∧ (n : Int) ≤ f (a + 2) + f (a + 3) - 1 then upI X (n : Int) (if f (a + 1) = 1 then f (a + 5) else if f (a + 1) = 2 then (c n + f (a + 5)) % 10 else f (a + 5 + n - f (a + 2))) else X) j = X j := by
          rw [if_neg h3]
          split
          · exact hX _
          · split
            · exact hX _
            · rfl
        rw [hres, i1]
        by_cases hl : j < n
        · rw [if_pos hl, if_pos (show j < (n : Int) + 1 by omega)]
        · rw [if_neg hl, if_neg (show ¬ j < (n : Int) + 1 by omega)]
  have := e 12 (by decide)
  rw [if_pos (show j < ((12 : Nat) : Int) by omega)] at this
  exact this
theorem turn_pt {f : Int → Int} {a : Int} {c : Int → Int} (h3 : f (a + 1) = 3) (hm : 1 ≤ f (a + 5) ∧ f (a + 5) ≤ 11) {j : Int} (hj : 0 ≤ j ∧ j < 12) : applyF f a c j = c (if j < f (a + 5) then 12 - f (a + 5) + j else j - f (a + 5)) := by
  obtain ⟨d, hd⟩ : ∃ d, d = f (a + 5) := ⟨_, rfl⟩
  rw [← hd] at hm ⊢
  have e : ∀ n : Nat, (n : Int) ≤ 12 → foldI (appF f a c) c 0 n j = if (if j < d then 12 - d + j else j - d) < n then c (if j < d then 12 - d + j else j - d) else c j := by
    intro n
    induction n with
    | zero => intro _; rw [foldI_0 (by omega), if_neg (by split <;> omega)]
    | succ n ih =>
      intro hn
      have i1 := ih (by omega)
      rw [show ((n + 1 : Nat) : Int) = (n : Int) + 1 by omega, foldI_s (by omega)]
      generalize foldI (appF f a c) c 0 (n : Int) = X at i1 ⊢
      unfold appF
      rw [if_neg (by omega), if_pos h3, ← hd]
      obtain ⟨k, hk⟩ : ∃ k, k = (if j < d then 12 - d + j else j - d) := ⟨_, rfl⟩
      have hk2 : (j < d ∧ k = 12 - d + j) ∨ (d ≤ j ∧ k = j - d) := by
        by_cases q : j < d
        · rw [if_pos q] at hk; exact Or.inl ⟨q, hk⟩
        · rw [if_neg q] at hk; exact Or.inr ⟨by omega, hk⟩
      rw [← hk] at i1 ⊢
      by_cases hjn : j = ((n : Int) + d) % 12
      · have hkn : k = n := by omega
        rw [hjn, upI_s, if_pos (by omega), hkn]
      · rw [upI_n hjn, i1]
        have hkn : k ≠ n := by omega
        by_cases hl : k < n
        · rw [if_pos hl, if_pos (by omega)]
        · rw [if_neg hl, if_neg (by omega)]
  have := e 12 (by decide)
  rw [if_pos (by split <;> omega)] at this
  exact this
def PA (m : Mem) (r : Nat) (c F : Int → Int) (sz : Nat) : PO := fun ret z m' => ret = none ∧ z = sz ∧ ∃ c' : Int → Int, Eq12 F c' ∧ (∀ j, ¬ (0 ≤ j ∧ j < 12) → c' j = c j) ∧ m' = upM m r (iar 12 c')
section
variable {G : GX} {sz : Nat} {m : Mem}
theorem ok_reverse {r : Nat} {c : Int → Int} {a b : Int} (hr : m r = iar 12 c) (h0 : 0 ≤ a ∧ a ≤ b + 1) (h1 : b ≤ 11) : Ok G kX0_reverse 0 [.inr (some r), .inl a, .inl b] sz m 0 0 (PV sz (upM m r (iar 12 (revF c a b)))) := by
  refine Ok.body [some (.inr (some r)), some (.inl a), some (.inl b), none, none, none] rfl (Nat.le_of_ble_eq_true rfl) (by decide) ?_
  have loop : ∀ (n : Nat) (l h : Int) (x : Option AV), (h - l + 1).toNat < n → a ≤ l → h ≤ b → l ≤ h + 1 → l + h = a + b → V G kX0_reverse (rmM 0 0 0) (QfM G (PV sz (upM m r (iar 12 (revF c a b)))) 0 0) 5 [some (.inr (some r)), some (.inl a), some (.inl b), some (.inl l), some (.inl h), x] [] sz (upM m r (iar 12 (fun j => if (a ≤ j ∧ j < l) ∨ (h < j ∧ j ≤ b) then c (a + b - j) else c j))) 0 0 := by
    intro n
    induction n with
    | zero => intro l h x hh; omega
    | succ n ih =>
      intro l h x hn hl hh hlh hs
      have fin : h ≤ l → (fun j => if (a ≤ j ∧ j < l) ∨ (h < j ∧ j ≤ b) then c (a + b - j) else c j) = revF c a b := by
        intro g
        funext j
        unfold revF
        by_cases q : (a ≤ j ∧ j < l) ∨ (h < j ∧ j ≤ b)
        · rw [if_pos q, if_pos (by omega)]
        · rw [if_neg q]
          by_cases q2 : a ≤ j ∧ j ≤ b
          · rw [if_pos q2]
            congr 1
            omega
          · rw [if_neg q2]
      refine V.ild3 aX0_reverse_5 ?_
      refine V.if_lt aX0_reverse_6 (tgt := 49) (by decide) (fun c6 => ?_) (fun c6 => ?_)
      · exfalso
        omega
      · refine V.ild3 aX0_reverse_9 ?_
        refine V.ild4 aX0_reverse_10 ?_
        refine V.icmp_ge aX0_reverse_12 (tgt := 49) (by decide) (fun c12 => ?_) (fun c12 => ?_)
        · refine V.ret aX0_reverse_49 rfl (by decide) ?_
          exact PV.of (by rw [fin (by omega)])
        · refine V.ild4 aX0_reverse_15 ?_
          refine V.ald0 aX0_reverse_17 ?_
          refine V.alen aX0_reverse_18 upM_s (by omega) ?_
          refine V.icmp_ge aX0_reverse_19 (tgt := 49) (by decide) (fun c19 => ?_) (fun c19 => ?_)
          · exfalso
            omega
          · refine V.ald0 aX0_reverse_22 ?_
            refine V.ild3 aX0_reverse_23 ?_
            refine V.iald aX0_reverse_24 upM_s (by omega) (by omega) ?_
            refine V.ist5 aX0_reverse_25 ?_
            refine V.ald0 aX0_reverse_27 ?_
            refine V.ild3 aX0_reverse_28 ?_
            refine V.ald0 aX0_reverse_29 ?_
            refine V.ild4 aX0_reverse_30 ?_
            refine V.iald aX0_reverse_32 upM_s (by omega) (by omega) ?_
            refine V.iast aX0_reverse_33 upM_s (by omega) (by omega) ?_
            refine V.ald0 aX0_reverse_34 ?_
            refine V.ild4 aX0_reverse_35 ?_
            refine V.ild5 aX0_reverse_37 ?_
            refine V.iast aX0_reverse_39 upM_s (by omega) (by omega) ?_
            refine V.inc3 aX0_reverse_40 (by omega) ?_
            refine V.inc4 aX0_reverse_43 (by omega) ?_
            refine V.goto aX0_reverse_46 (tgt := 5) (by decide) ?_
            refine V.mem ?_ (ih (l + 1) (h + -1) _ (by omega) (by omega) (by omega) (by omega) (by omega))
            rw [upM_upM, upM_upM]
            congr 2
            funext j
            by_cases q1 : j = h
            · subst q1
              rw [upI_s, if_pos (by omega), if_neg (by omega)]
              congr 1
              omega
            · rw [upI_n q1]
              by_cases q2 : j = l
              · subst q2
                rw [upI_s, if_pos (by omega), if_neg (by omega)]
                congr 1
                omega
              · rw [upI_n q2]
                by_cases q3 : (a ≤ j ∧ j < l) ∨ (h < j ∧ j ≤ b)
                · rw [if_pos q3, if_pos (by omega)]
                · rw [if_neg q3, if_neg (by omega)]
  refine V.ild1 aX0_reverse_0 ?_
  refine V.ist3 aX0_reverse_1 ?_
  refine V.ild2 aX0_reverse_2 ?_
  refine V.ist4 aX0_reverse_3 ?_
  refine V.mem ?_ (loop _ a b _ (Nat.lt_succ_self _) (Int.le_refl _) (Int.le_refl _) (by omega) rfl)
  funext q
  by_cases hq : q = r
  · subst hq
    rw [upM_s, hr]
    congr 1
    funext j
    rw [if_neg (by omega)]
  · rw [upM_n hq]
theorem ok_turnRow {e r va : Nat} {f c : Int → Int} {a am : Int} (ho : m e = obj 0 (eobj f a am va)) (hr : m r = iar 12 c) (h : 1 ≤ am ∧ am ≤ 11) : Ok G kX0_turnRow 1 [.inr (some e), .inr (some r)] sz m 0 0 (PV sz (upM m r (iar 12 (revF (revF (revF c 0 11) 0 (am - 1)) am 11)))) := by
  refine Ok.body [some (.inr (some e)), some (.inr (some r))] rfl (Nat.le_of_ble_eq_true rfl) (by decide) ?_
  have hne : e ≠ r := by
    intro q
    rw [q, hr] at ho
    cases ho
  refine V.mem (m2 := upM m r (iar 12 c)) (upM_self hr) ?_
  have ho2 : ∀ x, upM m r x e = obj 0 (eobj f a am va) := fun x => (upM_n hne).trans ho
  refine V.ald1 aX0_turnRow_0 ?_
  refine V.iconst aX0_turnRow_1 (by decide) ?_
  refine V.ald1 aX0_turnRow_2 ?_
  refine V.alen aX0_turnRow_3 upM_s (by omega) ?_
  refine V.iconst aX0_turnRow_4 (by decide) ?_
  refine V.isub aX0_turnRow_5 (by omega) ?_
  refine call_X0_reverse aX0_turnRow_6 gl_RX0_60 (ok_reverse upM_s (by omega) (by omega)) (Nat.le_of_ble_eq_true rfl) (by decide) (goV ?_)
  rw [upM_upM]
  refine V.ald1 aX0_turnRow_9 ?_
  refine V.iconst aX0_turnRow_10 (by decide) ?_
  refine V.ald0 aX0_turnRow_11 ?_
  refine V.getf aX0_turnRow_12 fl_RX0_24 (ho2 _) rfl ?_
  refine V.iconst aX0_turnRow_15 (by decide) ?_
  refine V.isub aX0_turnRow_16 (by omega) ?_
  refine call_X0_reverse aX0_turnRow_17 gl_RX0_60 (ok_reverse upM_s (by omega) (by omega)) (Nat.le_of_ble_eq_true rfl) (by decide) (goV ?_)
  rw [upM_upM]
  refine V.ald1 aX0_turnRow_20 ?_
  refine V.ald0 aX0_turnRow_21 ?_
  refine V.getf aX0_turnRow_22 fl_RX0_24 (ho2 _) rfl ?_
  refine V.ald1 aX0_turnRow_25 ?_
  refine V.alen aX0_turnRow_26 upM_s (by omega) ?_
  refine V.iconst aX0_turnRow_27 (by decide) ?_
  refine V.isub aX0_turnRow_28 (by omega) ?_
  refine call_X0_reverse aX0_turnRow_29 gl_RX0_60 (ok_reverse upM_s (by omega) (by omega)) (Nat.le_of_ble_eq_true rfl) (by decide) (goV ?_)
  rw [upM_upM]
  refine V.ret aX0_turnRow_32 rfl (by decide) ?_
  exact PV.of rfl
theorem ok_valueFor {e va nv : Nat} {f vf : Int → Int} {a am j old : Int} (ho : m e = obj 0 (eobj f a am va)) (hv : m va = iar nv vf) (hEV : EntV f a am nv vf) (h : entOK f a) (h3 : f (a + 1) ≠ 3) (hj : f (a + 2) ≤ j ∧ j ≤ f (a + 2) + f (a + 3) - 1) (hold : 0 ≤ old ∧ old ≤ 9) (h0 : 0 ≤ a) : Ok G kX0_valueFor 0 [.inr (some e), .inl j, .inl old] sz m 0 0 (PI (vA f a old j) sz m) := by
  refine Ok.body [some (.inr (some e)), some (.inl j), some (.inl old), none] rfl (Nat.le_of_ble_eq_true rfl) (by decide) ?_
  obtain ⟨-, g1, g2, -, g4, g5, -, g7, g8⟩ := id h
  obtain ⟨v1, v2, v3⟩ := id hEV
  have q9 : f (a + 1) ≠ 3 → 0 ≤ f (a + 5) ∧ f (a + 5) ≤ 9 := fun q => by
    have w0 := g4 0 (by decide) (by decide)
    have w1 := g5 q 0 (by decide) (by decide)
    rw [Int.add_zero] at w0 w1
    exact ⟨w0, w1⟩
  refine V.ald0 aX0_valueFor_0 ?_
  refine V.getf aX0_valueFor_1 fl_RX0_15 ho rfl ?_
  refine V.iconst aX0_valueFor_4 (by decide) ?_
  refine V.icmp_ne aX0_valueFor_5 (tgt := 13) (by decide) (fun c5 => ?_) (fun c5 => ?_)
  · refine V.ald0 aX0_valueFor_13 ?_
    refine V.getf aX0_valueFor_14 fl_RX0_15 ho rfl ?_
    refine V.iconst aX0_valueFor_17 (by decide) ?_
    refine V.icmp_ne aX0_valueFor_18 (tgt := 31) (by decide) (fun c18 => ?_) (fun c18 => ?_)
    · refine V.ild1 aX0_valueFor_31 ?_
      refine V.ald0 aX0_valueFor_32 ?_
      refine V.getf aX0_valueFor_33 fl_RX0_18 ho rfl ?_
      refine V.isub aX0_valueFor_36 (by omega) ?_
      refine V.ist3 aX0_valueFor_37 ?_
      refine V.ild3 aX0_valueFor_38 ?_
      refine V.if_lt aX0_valueFor_39 (tgt := 60) (by decide) (fun c39 => ?_) (fun c39 => ?_)
      · exfalso
        omega
      · refine V.ild3 aX0_valueFor_42 ?_
        refine V.ald0 aX0_valueFor_43 ?_
        refine V.getf aX0_valueFor_44 fl_RX0_27 ho rfl ?_
        have n0 : nv = 12 ∧ f (a + 1) = 0 ∨ (nv : Int) = f (a + 3) ∧ f (a + 1) = 4 := by
          by_cases q : f (a + 1) = 0
          · exact Or.inl ⟨(v2 q).1, q⟩
          · have q4 : f (a + 1) = 4 := by omega
            exact Or.inr ⟨(v3 q4).1.1, q4⟩
        refine V.alen aX0_valueFor_47 hv (by omega) ?_
        refine V.icmp_ge aX0_valueFor_48 (tgt := 60) (by decide) (fun c48 => ?_) (fun c48 => ?_)
        · refine V.ild2 aX0_valueFor_60 ?_
          refine V.iret aX0_valueFor_61 rfl (by decide) ?_
          refine PI.of ?_
          unfold vA
          rcases n0 with ⟨n1, n2⟩ | ⟨n1, n2⟩
          · have := g7 (Or.inl n2)
            first
            | (exfalso; omega)
            | (rw [if_pos n2, (v2 n2).2 _ (by omega) (by omega)]
               congr 1
               omega)
          · first
            | (exfalso; omega)
            | (rw [if_neg (by omega), if_neg (by omega), if_neg (by omega), (v3 n2).2 _ (by omega) (by omega)]
               congr 1
               omega)
        · refine V.ald0 aX0_valueFor_51 ?_
          refine V.getf aX0_valueFor_52 fl_RX0_27 ho rfl ?_
          refine V.ild3 aX0_valueFor_55 ?_
          refine V.iald aX0_valueFor_56 hv (by omega) (by omega) ?_
          refine V.goto aX0_valueFor_57 (tgt := 61) (by decide) ?_
          refine V.iret aX0_valueFor_61 rfl (by decide) ?_
          refine PI.of ?_
          unfold vA
          rcases n0 with ⟨n1, n2⟩ | ⟨n1, n2⟩
          · have := g7 (Or.inl n2)
            first
            | (exfalso; omega)
            | (rw [if_pos n2, (v2 n2).2 _ (by omega) (by omega)]
               congr 1
               omega)
          · first
            | (exfalso; omega)
            | (rw [if_neg (by omega), if_neg (by omega), if_neg (by omega), (v3 n2).2 _ (by omega) (by omega)]
               congr 1
               omega)
    · refine V.ild2 aX0_valueFor_21 ?_
      refine V.ald0 aX0_valueFor_22 ?_
      refine V.getf aX0_valueFor_23 fl_RX0_24 ho rfl ?_
      rw [(v1 (by omega) (by omega)).1]
      refine V.iadd aX0_valueFor_26 (by omega) ?_
      refine V.bipush aX0_valueFor_27 (by decide) (by decide) ?_
      refine V.irem aX0_valueFor_29 (by omega) (by omega) ?_
      refine V.iret aX0_valueFor_30 rfl (by decide) ?_
      exact PI.of (by unfold vA; rw [if_neg (by omega), if_neg (by omega), if_pos c18])
  · refine V.ald0 aX0_valueFor_8 ?_
    refine V.getf aX0_valueFor_9 fl_RX0_24 ho rfl ?_
    rw [(v1 (by omega) (by omega)).1]
    refine V.iret aX0_valueFor_12 rfl (by decide) ?_
    exact PI.of (by unfold vA; rw [if_neg (by omega), if_pos c5])
theorem ok_applyTo {e r va nv : Nat} {f c vf : Int → Int} {a am : Int} (ho : m e = obj 0 (eobj f a am va)) (hv : m va = iar nv vf) (hEV : EntV f a am nv vf) (h : entOK f a) (h0 : 0 ≤ a) (hr : m r = iar 12 c) (hvr : va ≠ r) (hc : ∀ j, 0 ≤ j → j < 12 → 0 ≤ c j ∧ c j ≤ 9) : Ok G kX0_applyTo 2 [.inr (some e), .inr (some r)] sz m 0 0 (PA m r c (applyF f a c) sz) := by
  refine Ok.body [some (.inr (some e)), some (.inr (some r)), none] rfl (Nat.le_of_ble_eq_true rfl) (by decide) ?_
  obtain ⟨-, g1, g2, -, g4, g5, g6, g7, g8⟩ := id h
  have hne : e ≠ r := by
    intro q
    rw [q, hr] at ho
    cases ho
  have ho2 : ∀ x, upM m r x e = obj 0 (eobj f a am va) := fun x => (upM_n hne).trans ho
  have hv2 : ∀ x, upM m r x va = iar nv vf := fun x => (upM_n hvr).trans hv
  by_cases h3 : f (a + 1) = 3
  · have q6 := g6 h3
    have ham : am = f (a + 5) := (hEV.1 (by omega) (by omega)).1
    refine V.ald0 aX0_applyTo_0 ?_
    refine V.getf aX0_applyTo_1 fl_RX0_15 ho rfl ?_
    refine V.iconst aX0_applyTo_4 (by decide) ?_
    refine V.icmp_ne aX0_applyTo_5 (tgt := 14) (by decide) (fun c5 => ?_) (fun c5 => ?_)
    · exact absurd h3 c5
    · refine V.ald0 aX0_applyTo_8 ?_
      refine V.ald1 aX0_applyTo_9 ?_
      refine call_X0_turnRow aX0_applyTo_10 gl_RX0_52 (ok_turnRow ho hr (by omega)) (ho) (Nat.le_of_ble_eq_true rfl) (by decide) (goV ?_)
      refine V.ret aX0_applyTo_13 rfl (by decide) ?_
      refine ⟨rfl, rfl, _, fun j j0 j1 => ?_, fun j hj => ?_, rfl⟩
      · rw [turn_pt h3 q6 ⟨j0, j1⟩, ham]
        unfold revF
        by_cases q : j < f (a + 5)
        · rw [if_pos q, if_neg (by omega), if_pos (by omega), if_pos (by omega)]
          congr 1
          omega
        · rw [if_neg q, if_pos (by omega), if_neg (by omega), if_pos (by omega)]
          congr 1
          omega
      · unfold revF
        rw [if_neg (by omega), if_neg (by omega), if_neg (by omega)]
  · have pt := fun (j : Int) (hj : 0 ≤ j ∧ j < 12) => apply_pt (c := c) h3 (fun q => g7 (Or.inl q)) hj
    have loop : ∀ (n : Nat) (k : Int), (12 - k).toNat < n → f (a + 2) ≤ k → k ≤ f (a + 2) + f (a + 3) → V G kX0_applyTo (rmM 2 0 0) (QfM G (PA m r c (applyF f a c) sz) 0 0) 19 [some (.inr (some e)), some (.inr (some r)), some (.inl k)] [] sz (upM m r (iar 12 (fun j => if f (a + 2) ≤ j ∧ j < k then vA f a (c j) j else c j))) 0 0 := by
      intro n
      induction n with
      | zero => intro k hh; omega
      | succ n ih =>
        intro k hn hk1 hk2
        refine V.ild2 aX0_applyTo_19 ?_
        refine V.if_lt aX0_applyTo_20 (tgt := 54) (by decide) (fun c20 => ?_) (fun c20 => ?_)
        · exfalso
          omega
        · refine V.ild2 aX0_applyTo_23 ?_
          refine V.ald0 aX0_applyTo_24 ?_
          refine V.getf aX0_applyTo_25 fl_RX0_21 (ho2 _) rfl ?_
          refine V.icmp_gt aX0_applyTo_28 (tgt := 54) (by decide) (fun c28 => ?_) (fun c28 => ?_)
          · refine V.ret aX0_applyTo_54 rfl (by decide) ?_
            refine ⟨rfl, rfl, _, fun j j0 j1 => ?_, fun j hj => ?_, rfl⟩
            · rw [pt j ⟨j0, j1⟩]
              by_cases q : f (a + 2) ≤ j ∧ j < k
              · rw [if_pos q, if_pos (by omega)]
              · rw [if_neg q, if_neg (by omega)]
            · rw [if_neg (by omega)]
          · refine V.ild2 aX0_applyTo_31 ?_
            refine V.ald1 aX0_applyTo_32 ?_
            refine V.alen aX0_applyTo_33 upM_s (by omega) ?_
            refine V.icmp_ge aX0_applyTo_34 (tgt := 54) (by decide) (fun c34 => ?_) (fun c34 => ?_)
            · exfalso
              omega
            · refine V.ald1 aX0_applyTo_37 ?_
              refine V.ild2 aX0_applyTo_38 ?_
              refine V.ald0 aX0_applyTo_39 ?_
              refine V.ild2 aX0_applyTo_40 ?_
              refine V.ald1 aX0_applyTo_41 ?_
              refine V.ild2 aX0_applyTo_42 ?_
              refine V.iald aX0_applyTo_43 upM_s (by omega) (by omega) ?_
              rw [if_neg (by omega)]
              have qc := hc k (by omega) (by omega)
              refine call_X0_valueFor aX0_applyTo_44 gl_RX0_56 (ok_valueFor (ho2 _) (hv2 _) hEV h (by omega) (by omega) (by omega) (by omega)) ((ho2 _)) (Nat.le_of_ble_eq_true rfl) (by decide) (goI ?_)
              refine V.iast aX0_applyTo_47 upM_s (by omega) (by omega) ?_
              refine V.inc2 aX0_applyTo_48 (by omega) ?_
              refine V.goto aX0_applyTo_51 (tgt := 19) (by decide) ?_
              refine V.mem ?_ (ih (k + 1) (by omega) (by omega) (by omega))
              rw [upM_upM]
              congr 2
              funext j
              by_cases q : j = k
              · subst q
                rw [upI_s, if_pos (by omega)]
              · rw [upI_n q]
                by_cases q2 : f (a + 2) ≤ j ∧ j < k
                · rw [if_pos q2, if_pos (by omega)]
                · rw [if_neg q2, if_neg (by omega)]
    refine V.ald0 aX0_applyTo_0 ?_
    refine V.getf aX0_applyTo_1 fl_RX0_15 ho rfl ?_
    refine V.iconst aX0_applyTo_4 (by decide) ?_
    refine V.icmp_ne aX0_applyTo_5 (tgt := 14) (by decide) (fun c5 => ?_) (fun c5 => ?_)
    · refine V.ald0 aX0_applyTo_14 ?_
      refine V.getf aX0_applyTo_15 fl_RX0_18 ho rfl ?_
      refine V.ist2 aX0_applyTo_18 ?_
      refine V.mem ?_ (loop _ (f (a + 2)) (Nat.lt_succ_self _) (Int.le_refl _) (by omega))
      rw [show (fun j => if f (a + 2) ≤ j ∧ j < f (a + 2) then vA f a (c j) j else c j) = c by funext j; rw [if_neg (by omega)]]
      exact upM_self hr
    · exact absurd c5 h3
end
