-- new states
section
variable {G : GX} {sz : Nat} {m : Mem} {B : Nat}
theorem ok_init1 {o : Nat} (ho : m o = obj 1 [.inr none, .inl 0, .inl 0, .inl 0, .inl 0]) (hs : o < sz) : Ok G kX1_init 1 [.inr (some o)] sz m 1 100 (PV (sz + 1) (upM (upM m sz (rar 0 100 (fun _ => none))) o (obj 1 [.inr (some sz), .inl 0, .inl 0, .inl 0, .inl 100]))) := by
  refine Ok.body [some (.inr (some o))] rfl (Nat.le_of_ble_eq_true rfl) (by decide) ?_
  refine V.ald0 aX1_init_0 ?_
  refine V.objI aX1_init_1 gl_RX1_3 (by decide) ?_
  refine V.ald0 aX1_init_4 ?_
  refine V.bipush aX1_init_5 (by decide) (by decide) ?_
  refine V.newr (ci := 0) aX1_init_7 gk_RX1_9 (Or.inl rfl) (by decide) (by decide) ?_
  refine V.putF aX1_init_10 fl_RX1_11 rfl rfl ((upM_n (by omega)).trans ho) (Nat.le_of_ble_eq_true rfl) rfl rfl ?_
  refine V.ald0 aX1_init_13 ?_
  refine V.bipush aX1_init_14 (by decide) (by decide) ?_
  refine V.putf aX1_init_16 fl_RX1_17 upM_s (Nat.le_of_ble_eq_true rfl) rfl rfl ?_
  rw [upM_upM]
  refine V.ret aX1_init_19 rfl (by decide) ?_
  exact PV.of rfl
theorem ok_init2 {o : Nat} (ho : m o = obj 2 [.inr none, .inr none, .inl 0, .inl 0, .inl 0]) (hs : o < sz) : Ok G kX2_init 1 [.inr (some o)] sz m 2 24 (PV (sz + 1 + 1) (upM (upM (upM m sz (iar 12 (fun _ => 0))) (sz + 1) (iar 12 (fun _ => 0))) o (obj 2 [.inr (some sz), .inr (some (sz + 1)), .inl 0, .inl 0, .inl 0]))) := by
  refine Ok.body [some (.inr (some o))] rfl (Nat.le_of_ble_eq_true rfl) (by decide) ?_
  refine V.ald0 aX2_init_0 ?_
  refine V.objI aX2_init_1 gl_RX2_3 (by decide) ?_
  refine V.ald0 aX2_init_4 ?_
  refine V.bipush aX2_init_5 (by decide) (by decide) ?_
  refine V.newi aX2_init_7 (by decide) (by decide) ?_
  refine V.putF aX2_init_9 fl_RX2_9 rfl rfl ((upM_n (by omega)).trans ho) (Nat.le_of_ble_eq_true rfl) rfl rfl ?_
  refine V.ald0 aX2_init_12 ?_
  refine V.bipush aX2_init_13 (by decide) (by decide) ?_
  refine V.newi aX2_init_15 (by decide) (by decide) ?_
  refine V.putF aX2_init_17 fl_RX2_15 rfl rfl ((upM_n (by omega)).trans upM_s) (Nat.le_of_ble_eq_true rfl) rfl rfl ?_
  refine V.ret aX2_init_20 rfl (by decide) ?_
  refine PV.of ?_
  funext q
  by_cases q1 : q = o
  · subst q1; rw [upM_s, upM_s]; rfl
  · rw [upM_n q1, upM_n q1]
    by_cases q2 : q = sz + 1
    · subst q2; rw [upM_s, upM_s]; rfl
    · rw [upM_n q2, upM_n q2, upM_n q1]; rfl
-- a new state's memory, its pages up to k made
def NB (m : Mem) (B : Nat) (k : Int) (m1 : Mem) : Prop := m1 B = obj 4 (sobj B iniS) ∧ m1 (B + 1) = rar 2 6 (fun p => if 0 ≤ p ∧ p < k then some (B + 4 + 3 * p.toNat) else none) ∧ m1 (B + 2) = obj 1 (lobj B iniS) ∧ m1 (B + 3) = rar 0 100 (fun _ => none) ∧ (∀ q : Int, 0 ≤ q ∧ q < k → m1 (B + 4 + 3 * q.toNat) = obj 2 (pobj B iniS q) ∧ m1 (B + 5 + 3 * q.toNat) = iar 12 (r12 iniS (8 + 12 * q)) ∧ m1 (B + 6 + 3 * q.toNat) = iar 12 (r12 iniS (80 + 12 * q))) ∧ ∀ a, a < B ∨ B + 4 + 3 * k.toNat ≤ a → m1 a = m a
theorem iniS_z {j : Int} (h : 2 ≤ j ∧ j < 164) : iniS j = 0 := by
  unfold iniS
  rw [cpy_out (by omega), upI_n (by omega), upI_n (by omega)]
  rfl
theorem iniS_d {j : Int} (h : 164 ≤ j ∧ j < 170) : iniS j = -5 := by
  unfold iniS
  rw [cpy_in (by omega)]
theorem r12_ini {a : Int} (h : 8 ≤ a ∧ a + 12 ≤ 152) : r12 iniS a = fun _ => 0 := by
  funext k
  by_cases q : 0 ≤ k ∧ k < 12
  · rw [r12_in q, iniS_z (by omega)]
  · rw [r12_out q]
theorem pobj_ini {q : Int} (h : 0 ≤ q ∧ q < 6) : pobj B iniS q = [.inr (some (B + 5 + 3 * q.toNat)), .inr (some (B + 6 + 3 * q.toNat)), .inl 0, .inl 0, .inl 0] := by
  unfold pobj dr
  rw [iniS_z (by omega), iniS_z (by omega), iniS_d (by omega)]
  rfl
theorem sobj_ini : sobj B iniS = [.inr (some (B + 1)), .inr (some (B + 2)), .inl 2, .inl 0, .inl 0, .inl 0] := by
  unfold sobj
  rw [iniS_z (j := 5) (by decide), iniS_z (j := 6) (by decide), iniS_z (j := 7) (by decide)]
  rfl
theorem lobj_ini : lobj B iniS = [.inr (some (B + 3)), .inl 0, .inl 0, .inl 0, .inl 100] := by
  unfold lobj
  rw [iniS_z (j := 2) (by decide), iniS_z (j := 3) (by decide), iniS_z (j := 4) (by decide)]
  rfl
theorem NB.eq {m1 : Mem} (h : NB m B 6 m1) : m1 = BM m B iniS (fun _ => none) := by
  obtain ⟨h0, h1, h2, h3, h4, h5⟩ := h
  exact BM_ext h0 h1 h2 h3 (fun q hq => (h4 q hq).1) (fun q hq => (h4 q hq).2.1) (fun q hq => (h4 q hq).2.2) (fun a ha => h5 a (by rw [show (6 : Int).toNat = 6 from rfl]; omega))
theorem ok_init4 (ho : m B = obj 4 [.inr none, .inr none, .inl 0, .inl 0, .inl 0, .inl 0]) : Ok G kX4_init 2 [.inr (some B)] (B + 1) m 21 291 (PV (B + 22) (BM m B iniS (fun _ => none))) := by
  refine Ok.body [some (.inr (some B)), none] rfl (Nat.le_of_ble_eq_true rfl) (by decide) ?_
  have loop : ∀ (n : Nat) (k : Int) (m1 : Mem) (z c t : Nat), (6 - k).toNat < n → 0 ≤ k → k ≤ 6 → NB m B k m1 → z = B + 4 + 3 * k.toNat → c = 3 + 3 * k.toNat → t = 111 + 29 * k.toNat → V G kX4_init (rmM 2 21 291) (QfM G (PV (B + 22) (BM m B iniS (fun _ => none))) 21 291) 31 [some (.inr (some B)), some (.inl k)] [] z m1 c t := by
    intro n
    induction n with
    | zero => intro k m1 z c t h; omega
    | succ n ih =>
      intro k m1 z c t hn hk1 hk2 hb hz hc ht
      obtain ⟨b0, b1, b2', b3, b4, b5⟩ := id hb
      refine V.ild1 aX4_init_31 ?_
      refine V.bipush aX4_init_32 (by decide) (by decide) ?_
      refine V.icmp_ge aX4_init_34 (tgt := 56) (by decide) (fun c34 => ?_) (fun c34 => ?_)
      · refine V.ret aX4_init_56 rfl (by show c ≤ 21 ∧ t ≤ 291; omega) ?_
        have ek : k = 6 := by omega
        have ez : z = B + 22 := by omega
        subst ek
        exact ⟨rfl, ez, hb.eq⟩
      · refine V.ald0 aX4_init_37 ?_
        refine V.getf aX4_init_38 fl_RX4_11 b0 rfl ?_
        refine V.ild1 aX4_init_41 ?_
        refine V.new aX4_init_42 nl_RX4_9 ⟨by show c + 1 ≤ 21; omega, by show t + 5 ≤ 291; omega⟩ ?_
        refine V.dup aX4_init_45 ?_
        refine call_X2_init aX4_init_46 rfl rfl (ok_init2 upM_s (by omega)) (Nat.le_of_ble_eq_true rfl) ⟨by decide, by show c + 1 + 2 ≤ 21; omega, by show t + 5 + 24 ≤ 291; omega⟩ (goV ?_)
        refine V.aast aX4_init_49 (ci := 2) (nn := 6) (g := fun p => if 0 ≤ p ∧ p < k then some (B + 4 + 3 * p.toNat) else none) ((upM_n (by omega)).trans ((upM_n (by omega)).trans ((upM_n (by omega)).trans ((upM_n (by omega)).trans b1)))) (by decide) hk1 c34 (fun v hv => by cases hv; exact ⟨_, upM_s⟩) ?_
        refine V.inc1 aX4_init_50 (by omega) ?_
        refine V.goto aX4_init_53 (tgt := 31) (by decide) ?_
        refine ih (k + 1) _ _ _ _ (by omega) (by omega) (by omega) ⟨?_, ?_, ?_, ?_, fun q hq => ?_, fun a ha => ?_⟩ (by omega) (by omega) (by omega)
        · rw [upM_n (by omega), upM_n (by omega), upM_n (by omega), upM_n (by omega), upM_n (by omega)]; exact b0
        · rw [upM_s]
          congr 1
          funext p
          by_cases w : p = k
          · subst w; rw [upI_s, if_pos (by omega), hz]
          · rw [upI_n w]
            by_cases w2 : 0 ≤ p ∧ p < k
            · rw [if_pos w2, if_pos (by omega)]
            · rw [if_neg w2, if_neg (by omega)]
        · rw [upM_n (by omega), upM_n (by omega), upM_n (by omega), upM_n (by omega), upM_n (by omega)]; exact b2'
        · rw [upM_n (by omega), upM_n (by omega), upM_n (by omega), upM_n (by omega), upM_n (by omega)]; exact b3
        · by_cases w : q = k
          · subst w
            rw [pobj_ini ⟨hk1, c34⟩, r12_ini (by omega), r12_ini (by omega)]
            refine ⟨?_, ?_, ?_⟩
            · rw [upM_n (by omega), ← hz, upM_s, show B + 5 + 3 * q.toNat = z + 1 by omega, show B + 6 + 3 * q.toNat = z + 1 + 1 by omega]
            · rw [upM_n (by omega), upM_n (by omega), upM_n (by omega), show B + 5 + 3 * q.toNat = z + 1 by omega, upM_s]
            · rw [upM_n (by omega), upM_n (by omega), show B + 6 + 3 * q.toNat = z + 1 + 1 by omega, upM_s]
          · obtain ⟨d1, d2, d3⟩ := b4 q (by omega)
            refine ⟨?_, ?_, ?_⟩
            · rw [upM_n (by omega), upM_n (by omega), upM_n (by omega), upM_n (by omega), upM_n (by omega)]; exact d1
            · rw [upM_n (by omega), upM_n (by omega), upM_n (by omega), upM_n (by omega), upM_n (by omega)]; exact d2
            · rw [upM_n (by omega), upM_n (by omega), upM_n (by omega), upM_n (by omega), upM_n (by omega)]; exact d3
        · rw [upM_n (by omega), upM_n (by omega), upM_n (by omega), upM_n (by omega), upM_n (by omega)]; exact b5 a (by omega)
  refine V.ald0 aX4_init_0 ?_
  refine V.objI aX4_init_1 gl_RX4_3 (by decide) ?_
  refine V.ald0 aX4_init_4 ?_
  refine V.bipush aX4_init_5 (by decide) (by decide) ?_
  refine V.newr (ci := 2) aX4_init_7 gk_RX4_9 (Or.inr (Or.inl rfl)) (by decide) (by decide) ?_
  refine V.putF aX4_init_10 fl_RX4_11 rfl rfl ((upM_n (by omega)).trans ho) (Nat.le_of_ble_eq_true rfl) rfl rfl ?_
  refine V.ald0 aX4_init_13 ?_
  refine V.new aX4_init_14 nl_RX4_17 (by decide) ?_
  refine V.dup aX4_init_17 ?_
  refine call_X1_init aX4_init_18 rfl rfl (ok_init1 upM_s (by omega)) (Nat.le_of_ble_eq_true rfl) (by decide) (goV ?_)
  refine V.putF aX4_init_21 fl_RX4_20 rfl rfl ((upM_n (by omega)).trans ((upM_n (by omega)).trans ((upM_n (by omega)).trans upM_s))) (Nat.le_of_ble_eq_true rfl) rfl rfl ?_
  refine V.ald0 aX4_init_24 ?_
  refine V.iconst aX4_init_25 (by decide) ?_
  refine V.putf aX4_init_26 fl_RX4_24 upM_s (Nat.le_of_ble_eq_true rfl) rfl rfl ?_
  refine V.iconst aX4_init_29 (by decide) ?_
  refine V.ist1 aX4_init_30 ?_
  refine loop _ 0 _ _ _ _ (Nat.lt_succ_self _) (by decide) (by decide) ⟨?_, ?_, ?_, ?_, fun q hq => by omega, fun a ha => ?_⟩ rfl rfl rfl
  · rw [upM_s, sobj_ini]; rfl
  · rw [upM_n (by omega), upM_n (by omega), upM_n (by omega), upM_n (by omega), upM_n (by omega), upM_n (by omega), upM_s]
    congr 1
    funext p
    rw [if_neg (by omega)]
  · rw [upM_n (by omega), upM_n (by omega), upM_s, lobj_ini]
  · rw [upM_n (by omega), upM_n (by omega), upM_n (by omega), upM_s]
  · rw [upM_n (by omega), upM_n (by omega), upM_n (by omega), upM_n (by omega), upM_n (by omega), upM_n (by omega), upM_n (by omega)]
end
