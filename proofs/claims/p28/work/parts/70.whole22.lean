-- the whole log: a new object
def h0X (X : Nat) : Int → Nat × BS := fun i => (X + 24 + 22 * i.toNat, (iniS, fun _ => none))
def NX (X : Nat) (k : Int) (m m1 : Mem) : Prop := m1 X = obj 5 [.inr (some (X + 1)), .inr (some (X + 23)), .inl 0, .inr none, .inl 0, .inr none, .inl 0] ∧ m1 (X + 23) = rar 4 5 (fun i => if 0 ≤ i ∧ i < k then some (X + 24 + 22 * i.toNat) else none) ∧ Blk m1 (X + 1) iniS (fun _ => none) ∧ (∀ q : Int, 0 ≤ q ∧ q < k → Blk m1 (X + 24 + 22 * q.toNat) iniS (fun _ => none)) ∧ ∀ a, a < X → m1 a = m a
def NP (X : Nat) (m m1 : Mem) : Prop := m1 X = obj 5 (xobj X 0 0 0) ∧ m1 (X + 23) = rar 4 5 (harr (h0X X)) ∧ m1 (X + 156) = car 60 (fun _ => 0) ∧ Blk m1 (X + 1) iniS (fun _ => none) ∧ Blk m1 (X + 134) iniS (fun _ => none) ∧ (∀ q : Int, 0 ≤ q ∧ q < 5 → Blk m1 (X + 24 + 22 * q.toNat) iniS (fun _ => none)) ∧ ∀ a, a < X → m1 a = m a
section
variable {G : GX} {sz : Nat} {m : Mem} {X : Nat}
theorem ok_init5 (ho : m X = obj 5 [.inr none, .inr none, .inl 0, .inr none, .inl 0, .inr none, .inl 0]) : Ok G kX5_init 3 [.inr (some X)] (X + 1) m 156 2144 (fun ret z m' => ret = none ∧ z = X + 157 ∧ NP X m m') := by
  refine Ok.body [some (.inr (some X)), none] rfl (Nat.le_of_ble_eq_true rfl) (by decide) ?_
  have loop : ∀ (n : Nat) (k : Int) (m1 : Mem) (z c t : Nat), (5 - k).toNat < n → 0 ≤ k → k ≤ 5 → NX X k m m1 → z = X + 24 + 22 * k.toNat → c = 23 + 22 * k.toNat → t = 302 + 297 * k.toNat → V G kX5_init (rmM 3 156 2144) (QfM G (fun ret z m' => ret = none ∧ z = X + 157 ∧ NP X m m') 156 2144) 25 [some (.inr (some X)), some (.inl k)] [] z m1 c t := by
    intro n
    induction n with
    | zero => intro k m1 z c t h; omega
    | succ n ih =>
      intro k m1 z c t hn hk1 hk2 hb hz hc ht
      obtain ⟨b0, b1, b2', b3, b5⟩ := id hb
      refine V.ild1 aX5_init_25 ?_
      refine V.ald0 aX5_init_26 ?_
      refine V.getf aX5_init_27 fl_RX5_16 b0 rfl ?_
      refine V.alenR aX5_init_30 b1 (by decide) ?_
      refine V.icmp_ge aX5_init_31 (tgt := 53) (by decide) (fun c31 => ?_) (fun c31 => ?_)
      · refine V.ald0 aX5_init_53 ?_
        refine V.new aX5_init_54 nl_RX5_9 ⟨by show c + 1 ≤ 156; omega, by show t + 6 ≤ 2144; omega⟩ ?_
        refine V.dup aX5_init_57 ?_
        refine call_X4_init aX5_init_58 gl_RX5_11 (ok_init4 upM_s) (Nat.le_of_ble_eq_true rfl) ⟨by decide, by show c + 1 + 21 ≤ 156; omega, by show t + 6 + 291 ≤ 2144; omega⟩ (goV ?_)
        refine V.putF aX5_init_61 fl_RX5_20 rfl rfl ((BM_n (by omega)).trans ((upM_n (by omega)).trans b0)) (Nat.le_of_ble_eq_true rfl) rfl rfl ?_
        refine V.ald0 aX5_init_64 ?_
        refine V.bipush aX5_init_65 (by decide) (by decide) ?_
        refine V.newc aX5_init_67 (by decide) ⟨by show c + 1 + 21 + 1 ≤ 156; omega, by show t + 6 + 291 + 60 ≤ 2144; omega⟩ ?_
        refine V.putF aX5_init_69 fl_RX5_23 rfl rfl ((upM_n (by omega)).trans upM_s) (Nat.le_of_ble_eq_true rfl) rfl rfl ?_
        refine V.ret aX5_init_72 rfl (by show c + 1 + 21 + 1 ≤ 156 ∧ t + 6 + 291 + (60 : Int).toNat ≤ 2144; have : (60 : Int).toNat = 60 := rfl; omega) ?_
        have ek : k = 5 := by omega
        have ez : z = X + 134 := by omega
        subst ek ez
        refine ⟨rfl, by omega, ?_, ?_, ?_, ?_, ?_, fun q hq => ?_, fun a ha => ?_⟩
        · rw [upM_s]; rfl
        · rw [upM_n (by omega), upM_n (by omega), upM_n (by omega), BM_n (by omega), upM_n (by omega)]; exact b1
        · rw [upM_n (by omega), upM_s]; rfl
        · exact b2'.keep (fun a a0 a1 => by rw [upM_n (by omega), upM_n (by omega), upM_n (by omega), BM_n (by omega), upM_n (by omega)])
        · exact (Blk.of).keep (fun a a0 a1 => by rw [upM_n (by omega), upM_n (by omega), upM_n (by omega)])
        · exact (b3 q hq).keep (fun a a0 a1 => by rw [upM_n (by omega), upM_n (by omega), upM_n (by omega), BM_n (by omega), upM_n (by omega)])
        · rw [upM_n (by omega), upM_n (by omega), upM_n (by omega), BM_n (by omega), upM_n (by omega)]; exact b5 a ha
      · refine V.ald0 aX5_init_34 ?_
        refine V.getf aX5_init_35 fl_RX5_16 b0 rfl ?_
        refine V.ild1 aX5_init_38 ?_
        refine V.new aX5_init_39 nl_RX5_9 ⟨by show c + 1 ≤ 156; omega, by show t + 6 ≤ 2144; omega⟩ ?_
        refine V.dup aX5_init_42 ?_
        refine call_X4_init aX5_init_43 gl_RX5_11 (ok_init4 upM_s) (Nat.le_of_ble_eq_true rfl) ⟨by decide, by show c + 1 + 21 ≤ 156; omega, by show t + 6 + 291 ≤ 2144; omega⟩ (goV ?_)
        refine V.aast aX5_init_46 (ci := 4) (nn := 5) ((BM_n (by omega)).trans ((upM_n (by omega)).trans b1)) (by decide) hk1 c31 (fun v hv => by cases hv; exact ⟨_, BM_S⟩) ?_
        refine V.inc1 aX5_init_47 (by omega) ?_
        refine V.goto aX5_init_50 (tgt := 25) (by decide) ?_
        refine ih (k + 1) _ _ _ _ (by omega) (by omega) (by omega) ⟨?_, ?_, ?_, fun q hq => ?_, fun a ha => ?_⟩ (by omega) (by omega) (by omega)
        · rw [upM_n (by omega), BM_n (by omega), upM_n (by omega)]; exact b0
        · rw [upM_s]
          congr 1
          funext p
          by_cases w : p = k
          · subst w; rw [upI_s, if_pos (by omega), hz]
          · rw [upI_n w]
            by_cases w2 : 0 ≤ p ∧ p < k
            · rw [if_pos w2, if_pos (by omega)]
            · rw [if_neg w2, if_neg (by omega)]
        · exact b2'.keep (fun a a0 a1 => by rw [upM_n (by omega), BM_n (by omega), upM_n (by omega)])
        · by_cases w : q = k
          · subst w
            rw [← hz]
            exact (Blk.of).keep (fun a a0 a1 => by rw [upM_n (by omega)])
          · exact (b3 q (by omega)).keep (fun a a0 a1 => by rw [upM_n (by omega), BM_n (by omega), upM_n (by omega)])
        · rw [upM_n (by omega), BM_n (by omega), upM_n (by omega)]; exact b5 a ha
  refine V.ald0 aX5_init_0 ?_
  refine V.objI aX5_init_1 gl_RX5_3 (by decide) ?_
  refine V.ald0 aX5_init_4 ?_
  refine V.new aX5_init_5 nl_RX5_9 (by decide) ?_
  refine V.dup aX5_init_8 ?_
  refine call_X4_init aX5_init_9 gl_RX5_11 (ok_init4 upM_s) (Nat.le_of_ble_eq_true rfl) (by decide) (goV ?_)
  refine V.putF aX5_init_12 fl_RX5_12 rfl rfl ((BM_n (by omega)).trans ((upM_n (by omega)).trans ho)) (Nat.le_of_ble_eq_true rfl) rfl rfl ?_
  refine V.ald0 aX5_init_15 ?_
  refine V.iconst aX5_init_16 (by decide) ?_
  refine V.newr (ci := 4) aX5_init_17 gk_RX5_9 (Or.inr (Or.inr rfl)) (by decide) (by decide) ?_
  refine V.putF aX5_init_20 fl_RX5_16 rfl rfl ((upM_n (by omega)).trans upM_s) (Nat.le_of_ble_eq_true rfl) rfl rfl ?_
  refine V.iconst aX5_init_23 (by decide) ?_
  refine V.ist1 aX5_init_24 ?_
  refine loop _ 0 _ _ _ _ (Nat.lt_succ_self _) (by decide) (by decide) ⟨?_, ?_, ?_, fun q hq => by omega, fun a ha => ?_⟩ rfl rfl rfl
  · rw [upM_s]; rfl
  · rw [upM_n (by omega), show X + 1 + 22 = X + 23 by omega, upM_s]
    congr 1
    funext p
    rw [if_neg (by omega)]
  · exact (Blk.of).keep (fun a a0 a1 => by rw [upM_n (by omega), upM_n (by omega), upM_n (by omega)])
  · rw [upM_n (by omega), upM_n (by omega), upM_n (by omega), BM_n (by omega), upM_n (by omega)]
end
