-- the reader of a text
def robj (ta : Nat) (ln : Int) (rd : Nat) (nn st : Int) : List AV := [.inr (some ta), .inl ln, .inr (some (rd + 1)), .inl nn, .inl st]
def RM (m : Mem) (rd ta : Nat) (ln nn st : Int) (f : Int → Option Nat) : Mem := fun a => if a = rd then obj 3 (robj ta ln rd nn st) else if a = rd + 1 then rar 0 21 f else m a
theorem txN_b {tx : Int → Int} {ln l sp : Int} (h : sp ≤ ln) : (seesP tx ln sp l 57 → 0 ≤ sp → sp + 1 ≤ ln) := fun q _ => by omega
section
variable {m : Mem} {rd ta : Nat} {ln nn st : Int} {f : Int → Option Nat}
theorem RM_o : (RM m rd ta ln nn st f) rd = obj 3 (robj ta ln rd nn st) := if_pos rfl
theorem RM_f : (RM m rd ta ln nn st f) (rd + 1) = rar 0 21 f := by
  unfold RM
  rw [if_neg (by omega), if_pos rfl]
theorem RM_n {a : Nat} (h : a ≠ rd ∧ a ≠ rd + 1) : (RM m rd ta ln nn st f) a = m a := by
  unfold RM
  rw [if_neg h.1, if_neg h.2]
theorem RM_ext {m2 : Mem} (h0 : m2 rd = obj 3 (robj ta ln rd nn st)) (h1 : m2 (rd + 1) = rar 0 21 f) (h2 : ∀ a, a ≠ rd → a ≠ rd + 1 → m2 a = m a) : m2 = (RM m rd ta ln nn st f) := by
  funext a
  by_cases q0 : a = rd
  · rw [q0, h0, RM_o]
  by_cases q1 : a = rd + 1
  · rw [q1, h1, RM_f]
  rw [h2 a q0 q1, RM_n ⟨q0, q1⟩]
theorem RM_wst {z : Int} : upM (RM m rd ta ln nn st f) rd (obj 3 ((robj ta ln rd nn st).set 4 (.inl z))) = (RM m rd ta ln nn z f) := RM_ext (by rw [upM_s]; rfl) (by rw [upM_n (by omega), RM_f]) (fun a h0 h1 => by rw [upM_n h0, RM_n ⟨h0, h1⟩])
theorem RM_wn {z : Int} : upM (RM m rd ta ln nn st f) rd (obj 3 ((robj ta ln rd nn st).set 3 (.inl z))) = (RM m rd ta ln z st f) := RM_ext (by rw [upM_s]; rfl) (by rw [upM_n (by omega), RM_f]) (fun a h0 h1 => by rw [upM_n h0, RM_n ⟨h0, h1⟩])
theorem RM_wf {h : Int → Option Nat} : upM (RM m rd ta ln nn st f) (rd + 1) (rar 0 21 h) = (RM m rd ta ln nn st h) := RM_ext (by rw [upM_n (by omega), RM_o]) (by rw [upM_s]) (fun a h0 h1 => by rw [upM_n h1, RM_n ⟨h0, h1⟩])
theorem RM_new {z : Nat} {c : AC} (h : rd + 2 ≤ z) : upM (RM m rd ta ln nn st f) z c = (RM (upM m z c) rd ta ln nn st f) := by
  refine RM_ext (by rw [upM_n (by omega), RM_o]) (by rw [upM_n (by omega), RM_f]) (fun a h0 h1 => ?_)
  by_cases q : a = z
  · subst q; rw [upM_s, upM_s]
  · rw [upM_n q, upM_n q, RM_n ⟨h0, h1⟩]
end
section
variable {G : GX} {sz : Nat} {m : Mem} {rd ta : Nat} {tx : Int → Int} {ln nn st : Int} {f : Int → Option Nat}
theorem ok_hasDigit {l u : Int} (ht : m ta = car 60 tx) (hta : ta < rd) (hl : 0 ≤ ln ∧ ln ≤ 60) (hs : 0 ≤ st ∧ st ≤ ln) : Ok G kX3_hasDigit 0 [.inr (some rd), .inl l, .inl u] sz (RM m rd ta ln nn st f) 0 0 (PI (b2 (seesP tx ln st (48 + l) (48 + u))) sz (RM m rd ta ln nn st f)) := by
  refine Ok.body [some (.inr (some rd)), some (.inl l), some (.inl u), none] rfl (Nat.le_of_ble_eq_true rfl) (by decide) ?_
  have htx : ∀ nn st f, (RM m rd ta ln nn st f) ta = car 60 tx := fun nn st f => (RM_n ⟨by omega, by omega⟩).trans ht
  refine V.knowC (htx nn st f) (fun hk => ?_)
  have hkn : st < ln → 0 ≤ tx st ∧ tx st < 65536 := fun h => hk st hs.1 (by omega)
  refine V.ald0 aX3_hasDigit_0 ?_
  refine V.getf aX3_hasDigit_1 fl_RX3_32 RM_o rfl ?_
  refine V.if_lt aX3_hasDigit_4 (tgt := 30) (by decide) (fun c4 => ?_) (fun c4 => ?_)
  · refine V.iconst aX3_hasDigit_30 (by decide) ?_
    refine V.zret aX3_hasDigit_31 rfl (by first | decide | exact b2_01 | omega) (by decide) ?_
    exact PI.of (by unfold b2; split <;> omega)
  · refine V.ald0 aX3_hasDigit_7 ?_
    refine V.getf aX3_hasDigit_8 fl_RX3_32 RM_o rfl ?_
    refine V.ald0 aX3_hasDigit_11 ?_
    refine V.getf aX3_hasDigit_12 fl_RX3_21 RM_o rfl ?_
    refine V.icmp_ge aX3_hasDigit_15 (tgt := 30) (by decide) (fun c15 => ?_) (fun c15 => ?_)
    · refine V.iconst aX3_hasDigit_30 (by decide) ?_
      refine V.zret aX3_hasDigit_31 rfl (by first | decide | exact b2_01 | omega) (by decide) ?_
      exact PI.of (by unfold b2; split <;> omega)
    · refine V.ald0 aX3_hasDigit_18 ?_
      refine V.getf aX3_hasDigit_19 fl_RX3_32 RM_o rfl ?_
      refine V.ald0 aX3_hasDigit_22 ?_
      refine V.getf aX3_hasDigit_23 fl_RX3_17 RM_o rfl ?_
      refine V.alenC aX3_hasDigit_26 (htx _ _ _) (by omega) ?_
      refine V.icmp_lt aX3_hasDigit_27 (tgt := 32) (by decide) (fun c27 => ?_) (fun c27 => ?_)
      · refine V.ald0 aX3_hasDigit_32 ?_
        refine V.getf aX3_hasDigit_33 fl_RX3_17 RM_o rfl ?_
        refine V.ald0 aX3_hasDigit_36 ?_
        refine V.getf aX3_hasDigit_37 fl_RX3_32 RM_o rfl ?_
        refine V.cald aX3_hasDigit_40 (htx _ _ _) (by omega) (by omega) ?_
        refine V.bipush aX3_hasDigit_41 (by decide) (by decide) ?_
        refine V.isub aX3_hasDigit_43 (by omega) ?_
        refine V.ist3 aX3_hasDigit_44 ?_
        refine V.ild3 aX3_hasDigit_45 ?_
        refine V.ild1 aX3_hasDigit_46 ?_
        refine V.icmp_lt aX3_hasDigit_47 (tgt := 59) (by decide) (fun c47 => ?_) (fun c47 => ?_)
        · refine V.iconst aX3_hasDigit_59 (by decide) ?_
          refine V.zret aX3_hasDigit_60 rfl (by first | decide | exact b2_01 | omega) (by decide) ?_
          exact PI.of (by unfold b2; split <;> omega)
        · refine V.ild3 aX3_hasDigit_50 ?_
          refine V.ild2 aX3_hasDigit_51 ?_
          refine V.icmp_gt aX3_hasDigit_52 (tgt := 59) (by decide) (fun c52 => ?_) (fun c52 => ?_)
          · refine V.iconst aX3_hasDigit_59 (by decide) ?_
            refine V.zret aX3_hasDigit_60 rfl (by first | decide | exact b2_01 | omega) (by decide) ?_
            exact PI.of (by unfold b2; split <;> omega)
          · refine V.iconst aX3_hasDigit_55 (by decide) ?_
            refine V.goto aX3_hasDigit_56 (tgt := 60) (by decide) ?_
            refine V.zret aX3_hasDigit_60 rfl (by first | decide | exact b2_01 | omega) (by decide) ?_
            exact PI.of (by unfold b2; split <;> omega)
      · refine V.iconst aX3_hasDigit_30 (by decide) ?_
        refine V.zret aX3_hasDigit_31 rfl (by first | decide | exact b2_01 | omega) (by decide) ?_
        exact PI.of (by unfold b2; split <;> omega)
theorem ok_readDigit {l u : Int} (ht : m ta = car 60 tx) (hta : ta < rd) (hl : 0 ≤ ln ∧ ln ≤ 60) (hs : 0 ≤ st ∧ st ≤ ln) : Ok G kX3_readDigit 1 [.inr (some rd), .inl l, .inl u] sz (RM m rd ta ln nn st f) 0 0 (PI (if seesP tx ln st (48 + l) (48 + u) then tx st - 48 else -5) sz (RM m rd ta ln nn (if seesP tx ln st (48 + l) (48 + u) then st + 1 else st) f)) := by
  refine Ok.body [some (.inr (some rd)), some (.inl l), some (.inl u), none] rfl (Nat.le_of_ble_eq_true rfl) (by decide) ?_
  have htx : ∀ nn st f, (RM m rd ta ln nn st f) ta = car 60 tx := fun nn st f => (RM_n ⟨by omega, by omega⟩).trans ht
  refine V.knowC (htx nn st f) (fun hk => ?_)
  have hkn : st < ln → 0 ≤ tx st ∧ tx st < 65536 := fun h => hk st hs.1 (by omega)
  refine V.ald0 aX3_readDigit_0 ?_
  refine V.ild1 aX3_readDigit_1 ?_
  refine V.ild2 aX3_readDigit_2 ?_
  refine call_X3_hasDigit aX3_readDigit_3 gl_RX3_66 (ok_hasDigit ht hta hl (by omega)) (RM_o) (Nat.le_of_ble_eq_true rfl) (by decide) (goI ?_)
  refine V.ifb_ne aX3_readDigit_6 (tgt := 12) (by decide) (fun c6 => ?_) (fun c6 => ?_)
  · refine V.ald0 aX3_readDigit_12 ?_
    refine V.getf aX3_readDigit_13 fl_RX3_17 RM_o rfl ?_
    refine V.ald0 aX3_readDigit_16 ?_
    refine V.getf aX3_readDigit_17 fl_RX3_32 RM_o rfl ?_
    refine V.cald aX3_readDigit_20 (htx _ _ _) (by omega) (by omega) ?_
    refine V.bipush aX3_readDigit_21 (by decide) (by decide) ?_
    refine V.isub aX3_readDigit_23 (by omega) ?_
    refine V.ist3 aX3_readDigit_24 ?_
    refine V.ald0 aX3_readDigit_25 ?_
    refine V.dup aX3_readDigit_26 ?_
    refine V.getf aX3_readDigit_27 fl_RX3_32 RM_o rfl ?_
    refine V.iconst aX3_readDigit_30 (by decide) ?_
    refine V.iadd aX3_readDigit_31 (by omega) ?_
    refine V.putf aX3_readDigit_32 fl_RX3_32 RM_o (Nat.le_of_ble_eq_true rfl) rfl rfl ?_
    refine V.mem RM_wst.symm ?_
    refine V.ild3 aX3_readDigit_35 ?_
    refine V.iret aX3_readDigit_36 rfl (by decide) ?_
    first
      | exact PI.of2 (by rw [if_pos c6]) (by rw [if_pos c6])
      | exact PI.of2 (by rw [if_neg c6]) (by rw [if_neg c6])
  · refine V.bipush aX3_readDigit_9 (by decide) (by decide) ?_
    refine V.iret aX3_readDigit_11 rfl (by decide) ?_
    first
      | exact PI.of2 (by rw [if_pos c6]) (by rw [if_pos c6])
      | exact PI.of2 (by rw [if_neg c6]) (by rw [if_neg c6])
theorem ok_readSign {c : Int} (ht : m ta = car 60 tx) (hta : ta < rd) (hl : 0 ≤ ln ∧ ln ≤ 60) (hs : 0 ≤ st ∧ st ≤ ln) : Ok G kX3_readSign 0 [.inr (some rd), .inl c] sz (RM m rd ta ln nn st f) 0 0 (PI (b2 (seesP tx ln st c c)) sz (RM m rd ta ln nn (if seesP tx ln st c c then st + 1 else st) f)) := by
  refine Ok.body [some (.inr (some rd)), some (.inl c)] rfl (Nat.le_of_ble_eq_true rfl) (by decide) ?_
  have htx : ∀ nn st f, (RM m rd ta ln nn st f) ta = car 60 tx := fun nn st f => (RM_n ⟨by omega, by omega⟩).trans ht
  refine V.ald0 aX3_readSign_0 ?_
  refine V.getf aX3_readSign_1 fl_RX3_32 RM_o rfl ?_
  refine V.if_lt aX3_readSign_4 (tgt := 43) (by decide) (fun c4 => ?_) (fun c4 => ?_)
  · refine V.iconst aX3_readSign_43 (by decide) ?_
    refine V.zret aX3_readSign_44 rfl (by first | decide | exact b2_01 | omega) (by decide) ?_
    by_cases q : seesP tx ln st c c
    · first
      | (exfalso; omega)
      | exact PI.of2 (by rw [b2_t q]) (by rw [if_pos q])
    · first
      | (exfalso; omega)
      | exact PI.of2 (by rw [b2_f q]) (by rw [if_neg q])
  · refine V.ald0 aX3_readSign_7 ?_
    refine V.getf aX3_readSign_8 fl_RX3_32 RM_o rfl ?_
    refine V.ald0 aX3_readSign_11 ?_
    refine V.getf aX3_readSign_12 fl_RX3_21 RM_o rfl ?_
    refine V.icmp_ge aX3_readSign_15 (tgt := 43) (by decide) (fun c15 => ?_) (fun c15 => ?_)
    · refine V.iconst aX3_readSign_43 (by decide) ?_
      refine V.zret aX3_readSign_44 rfl (by first | decide | exact b2_01 | omega) (by decide) ?_
      by_cases q : seesP tx ln st c c
      · first
        | (exfalso; omega)
        | exact PI.of2 (by rw [b2_t q]) (by rw [if_pos q])
      · first
        | (exfalso; omega)
        | exact PI.of2 (by rw [b2_f q]) (by rw [if_neg q])
    · refine V.ald0 aX3_readSign_18 ?_
      refine V.getf aX3_readSign_19 fl_RX3_32 RM_o rfl ?_
      refine V.ald0 aX3_readSign_22 ?_
      refine V.getf aX3_readSign_23 fl_RX3_17 RM_o rfl ?_
      refine V.alenC aX3_readSign_26 (htx _ _ _) (by omega) ?_
      refine V.icmp_ge aX3_readSign_27 (tgt := 43) (by decide) (fun c27 => ?_) (fun c27 => ?_)
      · refine V.iconst aX3_readSign_43 (by decide) ?_
        refine V.zret aX3_readSign_44 rfl (by first | decide | exact b2_01 | omega) (by decide) ?_
        by_cases q : seesP tx ln st c c
        · first
          | (exfalso; omega)
          | exact PI.of2 (by rw [b2_t q]) (by rw [if_pos q])
        · first
          | (exfalso; omega)
          | exact PI.of2 (by rw [b2_f q]) (by rw [if_neg q])
      · refine V.ald0 aX3_readSign_30 ?_
        refine V.getf aX3_readSign_31 fl_RX3_17 RM_o rfl ?_
        refine V.ald0 aX3_readSign_34 ?_
        refine V.getf aX3_readSign_35 fl_RX3_32 RM_o rfl ?_
        refine V.cald aX3_readSign_38 (htx _ _ _) (by omega) (by omega) ?_
        refine V.ild1 aX3_readSign_39 ?_
        refine V.icmp_eq aX3_readSign_40 (tgt := 45) (by decide) (fun c40 => ?_) (fun c40 => ?_)
        · refine V.ald0 aX3_readSign_45 ?_
          refine V.dup aX3_readSign_46 ?_
          refine V.getf aX3_readSign_47 fl_RX3_32 RM_o rfl ?_
          refine V.iconst aX3_readSign_50 (by decide) ?_
          refine V.iadd aX3_readSign_51 (by omega) ?_
          refine V.putf aX3_readSign_52 fl_RX3_32 RM_o (Nat.le_of_ble_eq_true rfl) rfl rfl ?_
          refine V.mem RM_wst.symm ?_
          refine V.iconst aX3_readSign_55 (by decide) ?_
          refine V.zret aX3_readSign_56 rfl (by first | decide | exact b2_01 | omega) (by decide) ?_
          by_cases q : seesP tx ln st c c
          · first
            | (exfalso; omega)
            | exact PI.of2 (by rw [b2_t q]) (by rw [if_pos q])
          · first
            | (exfalso; omega)
            | exact PI.of2 (by rw [b2_f q]) (by rw [if_neg q])
        · refine V.iconst aX3_readSign_43 (by decide) ?_
          refine V.zret aX3_readSign_44 rfl (by first | decide | exact b2_01 | omega) (by decide) ?_
          by_cases q : seesP tx ln st c c
          · first
            | (exfalso; omega)
            | exact PI.of2 (by rw [b2_t q]) (by rw [if_pos q])
          · first
            | (exfalso; omega)
            | exact PI.of2 (by rw [b2_f q]) (by rw [if_neg q])
theorem ok_readNumber {l : Int} (ht : m ta = car 60 tx) (hta : ta < rd) (hl : 0 ≤ ln ∧ ln ≤ 60) (hs : (0 ≤ st ∧ st ≤ ln) ∧ 0 ≤ l ∧ l ≤ 1) : Ok G kX3_readNumber 2 [.inr (some rd), .inl l] sz (RM m rd ta ln nn st f) 0 0 (PI (numP tx ln (48 + l) st).1 sz (RM m rd ta ln nn (numP tx ln (48 + l) st).2 f)) := by
  refine Ok.body [some (.inr (some rd)), some (.inl l), none] rfl (Nat.le_of_ble_eq_true rfl) (by decide) ?_
  have htx : ∀ nn st f, (RM m rd ta ln nn st f) ta = car 60 tx := fun nn st f => (RM_n ⟨by omega, by omega⟩).trans ht
  by_cases q : seesP tx ln st (48 + l) 57
  · have e1 : (if seesP tx ln st (48 + l) (48 + 9) then tx st - 48 else -5) = tx st - 48 := if_pos q
    have e2 : (if seesP tx ln st (48 + l) (48 + 9) then st + 1 else st) = st + 1 := if_pos q
    refine V.ald0 aX3_readNumber_0 ?_
    refine V.ild1 aX3_readNumber_1 ?_
    refine V.bipush aX3_readNumber_2 (by decide) (by decide) ?_
    refine call_X3_readDigit aX3_readNumber_4 gl_RX3_39 (ok_readDigit ht hta hl (by omega)) (RM_o) (Nat.le_of_ble_eq_true rfl) (by decide) (goI ?_)
    rw [e1, e2]
    refine V.ist2 aX3_readNumber_7 ?_
    refine V.ild2 aX3_readNumber_8 ?_
    refine V.iconst aX3_readNumber_9 (by decide) ?_
    refine V.icmp_ne aX3_readNumber_10 (tgt := 32) (by decide) (fun c10 => ?_) (fun c10 => ?_)
    · refine V.ild2 aX3_readNumber_32 ?_
      refine V.iret aX3_readNumber_33 rfl (by decide) ?_
      unfold numP
      rw [if_pos q]
      first
        | (rw [if_pos ⟨c10, c19⟩]; exact PI.of2 (by omega) rfl)
        | (rw [if_neg (by omega)]; exact PI.of2 rfl rfl)
    · refine V.ald0 aX3_readNumber_13 ?_
      refine V.iconst aX3_readNumber_14 (by decide) ?_
      refine V.iconst aX3_readNumber_15 (by decide) ?_
      refine call_X3_hasDigit aX3_readNumber_16 gl_RX3_66 (ok_hasDigit ht hta hl (by omega)) (RM_o) (Nat.le_of_ble_eq_true rfl) (by decide) (goI ?_)
      refine V.ifb_eq aX3_readNumber_19 (tgt := 32) (by decide) (fun c19 => ?_) (fun c19 => ?_)
      · refine V.ild2 aX3_readNumber_32 ?_
        refine V.iret aX3_readNumber_33 rfl (by decide) ?_
        unfold numP
        rw [if_pos q]
        first
          | (rw [if_pos ⟨c10, c19⟩]; exact PI.of2 (by omega) rfl)
          | (rw [if_neg (by omega)]; exact PI.of2 rfl rfl)
      · refine V.bipush aX3_readNumber_22 (by decide) (by decide) ?_
        refine V.ald0 aX3_readNumber_24 ?_
        refine V.iconst aX3_readNumber_25 (by decide) ?_
        refine V.iconst aX3_readNumber_26 (by decide) ?_
        refine call_X3_readDigit aX3_readNumber_27 gl_RX3_39 (ok_readDigit ht hta hl (by omega)) (RM_o) (Nat.le_of_ble_eq_true rfl) (by decide) (goI ?_)
        rw [if_pos c19, if_pos c19]
        refine V.iadd aX3_readNumber_30 (by omega) ?_
        refine V.iret aX3_readNumber_31 rfl (by decide) ?_
        unfold numP
        rw [if_pos q]
        first
          | (rw [if_pos ⟨c10, c19⟩]; exact PI.of2 (by omega) rfl)
          | (rw [if_neg (by omega)]; exact PI.of2 rfl rfl)
  · have e1 : (if seesP tx ln st (48 + l) (48 + 9) then tx st - 48 else -5) = -5 := if_neg q
    have e2 : (if seesP tx ln st (48 + l) (48 + 9) then st + 1 else st) = st := if_neg q
    refine V.ald0 aX3_readNumber_0 ?_
    refine V.ild1 aX3_readNumber_1 ?_
    refine V.bipush aX3_readNumber_2 (by decide) (by decide) ?_
    refine call_X3_readDigit aX3_readNumber_4 gl_RX3_39 (ok_readDigit ht hta hl (by omega)) (RM_o) (Nat.le_of_ble_eq_true rfl) (by decide) (goI ?_)
    rw [e1, e2]
    refine V.ist2 aX3_readNumber_7 ?_
    refine V.ild2 aX3_readNumber_8 ?_
    refine V.iconst aX3_readNumber_9 (by decide) ?_
    refine V.icmp_ne aX3_readNumber_10 (tgt := 32) (by decide) (fun c10 => ?_) (fun c10 => ?_)
    · refine V.ild2 aX3_readNumber_32 ?_
      refine V.iret aX3_readNumber_33 rfl (by decide) ?_
      unfold numP
      rw [if_neg q]
      exact PI.of2 rfl rfl
    · exact absurd c10 (by decide)
end
