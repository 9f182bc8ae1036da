-- the law's beginning
theorem ini_0 : iniS 0 = 2 := by decide
theorem ini_1 : iniS 1 = 100 := by decide
theorem ini_z {j : Int} (h : 2 ≤ j ∧ j < 164) : iniS j = 0 := by
  unfold iniS
  rw [cpy_out (by omega), upI_n (by omega), upI_n (by omega)]
  rfl
theorem ini_5 {j : Int} (h : 164 ≤ j ∧ j < 170) : iniS j = -5 := by
  unfold iniS
  rw [cpy_in (by omega)]
theorem inv_ini : Inv 0 iniS := by
  have e2 := ini_z (j := 2) (by decide)
  have e3 := ini_z (j := 3) (by decide)
  have e4 := ini_z (j := 4) (by decide)
  have e5 := ini_z (j := 5) (by decide)
  have e6 := ini_z (j := 6) (by decide)
  have e7 := ini_z (j := 7) (by decide)
  have e0 := ini_0
  have e1 := ini_1
  refine ⟨by omega, by omega, by omega, by omega, by omega, by omega, fun i i0 i1 => ?_, fun p p0 p1 => ⟨?_, ?_, ?_⟩, fun k k0 k1 => by omega, ?_, by decide⟩
  · rw [ini_z (by omega)]; decide
  · rw [ini_z (by omega), e4]; decide
  · rw [ini_z (by omega)]; exact Or.inl rfl
  · rw [ini_5 (by omega)]; exact Or.inl rfl
  · have eu : used iniS = 0 := by
      unfold used
      first | exact foldI_0 (by omega) | (rw [e2, e3]; rfl)
    omega
section
variable {G : GX} {Qf : QF} {X t0 b L : Nat} {xs : Int → Int}
theorem cpStart {m1 m' : Mem} {h0 : Int → Int} {cc : AC} (hN : NP X m1 m') (ht : m1 t0 = iar 0 h0) (hX : t0 < X) : CP (MM (upM m' (X + 157) cc) (X + 157) iniS Zr Zr 0 Zr 0 Zr 0 Zr Zr Zr 0) X t0 0 := by
  obtain ⟨n1, n2, n3, n4, n5, n6, n7⟩ := hN
  have x : ∀ a, a < X + 157 → (MM (upM m' (X + 157) cc) (X + 157) iniS Zr Zr 0 Zr 0 Zr 0 Zr Zr Zr 0) a = m' a := fun a ha => by rw [MM_n (by omega), upM_n (by omega)]
  have e2 := ini_z (j := 2) (by decide)
  have e3 := ini_z (j := 3) (by decide)
  refine ⟨iniS, Zr, 0, Zr, 0, Zr, 0, Zr, Zr, Zr, Zr, 0, _, ⟨fun _ => none, h0X X, (iniS, fun _ => none), ⟨⟨(x _ (by omega)).trans n1, (x _ (by omega)).trans n2, (x _ (by omega)).trans n3, ⟨h0, (x _ (by omega)).trans ((n7 _ hX).trans ht)⟩, ⟨n4.keep (fun a a0 a1 => x a (by omega)), fun i i0 i1 e he => by cases he⟩, ⟨n5.keep (fun a a0 a1 => x a (by omega)), fun i i0 i1 e he => by cases he⟩, fun i i0 i1 => ⟨(n6 i ⟨i0, i1⟩).keep (fun a a0 a1 => x a (by omega)), fun i i0 i1 e he => by cases he⟩, fun i i0 i1 => ⟨?_, fun j j0 j1 hj => ?_⟩, ⟨hX, by omega⟩, by decide, Or.inl rfl, by decide, by decide, fun a a0 a1 => ⟨rfl, mmNu (by omega)⟩⟩, ⟨fun i i0 i1 => ?_, inv_ini⟩, fun q => absurd rfl q, fun i i0 i1 => by omega⟩, fun i i0 i1 => by omega, fun q => absurd rfl q⟩, rfl⟩
  · show X + 24 ≤ X + 24 + 22 * i.toNat ∧ X + 24 + 22 * i.toNat + 22 ≤ X + 134
    omega
  · show X + 24 + 22 * i.toNat + 22 ≤ X + 24 + 22 * j.toNat ∨ X + 24 + 22 * j.toNat + 22 ≤ X + 24 + 22 * i.toNat
    omega
  · have : i < iniS 3 - iniS 2 := i1
    omega
theorem law_run {m0 : Mem} (hG : G.2.2.2 = t0) (hb : b < G.2.2.1 ∧ G.2.2.1 ≤ X) (htX : t0 < X) (hL : L ≤ 2560) (hbs : m0 b = fiar L xs) (h5 : 5 ≤ L → b ≠ t0 ∧ ∃ h0, m0 t0 = iar 0 h0) (hend : ∀ (sz : Nat) (m : Mem) (k q : Nat) (L1 : List (Option AV)), k ≤ 600000 → q ≤ 7302250 → V G kL_law room_1 Qf 782 L1 [.inl 1] sz m k q) : V G kL_law room_1 Qf 0 [some (.inr (some b)), none, none, none] [] X m0 0 0 := by
  refine V.new aL_law_0 nl_RL_7 (by decide) ?_
  refine V.dup aL_law_3 ?_
  refine call_X5_init aL_law_4 gl_RL_9 (ok_init5 upM_s) (Nat.le_of_ble_eq_true rfl) (by decide) (fun r4 z4 m4 h4 => ?_)
  obtain ⟨rfl, rfl, hN⟩ := h4
  have hb4 : m4 b = fiar L xs := (hN.2.2.2.2.2.2 b (by omega)).trans ((upM_n (by omega)).trans hbs)
  refine V.ast1 aL_law_7 ?_
  refine V.new aL_law_8 nl_RL_10 (by decide) ?_
  refine V.dup aL_law_11 ?_
  refine call_X6_init aL_law_12 gl_RL_12 (ok_init6 upM_s) (Nat.le_of_ble_eq_true rfl) (by decide) (goV ?_)
  refine V.ast2 aL_law_15 ?_
  refine V.iconst aL_law_16 (by decide) ?_
  refine V.ist3 aL_law_17 ?_
  have hbM : (MM (upM m4 (X + 157) (obj 6 [.inr none, .inr none, .inr none, .inl 0, .inr none, .inl 0, .inr none, .inl 0, .inr none, .inr none, .inr none, .inl 0])) (X + 157) iniS Zr Zr 0 Zr 0 Zr 0 Zr Zr Zr 0) b = fiar L xs := by rw [MM_n (by omega), upM_n (by omega)]; exact hb4
  by_cases hL5 : 5 ≤ L
  · obtain ⟨hbt, h0, ht⟩ := h5 hL5
    have hcp := cpStart (cc := obj 6 [.inr none, .inr none, .inr none, .inl 0, .inr none, .inl 0, .inr none, .inl 0, .inr none, .inr none, .inr none, .inl 0]) hN ((upM_n (by omega)).trans ht) htX
    exact law_loop hG ⟨hb.1, hb.2, hbt⟩ hL hend L 0 0 _ _ _ _ (by omega) (by omega) (by decide) hcp hbM (by omega) (by decide) (by decide)
  refine V.ild3 aL_law_18 ?_
  refine V.ald0 aL_law_19 ?_
  refine V.alenF aL_law_20 hbM ⟨by omega, by omega⟩ ?_
  refine V.iconst aL_law_21 (by decide) ?_
  refine V.isub aL_law_22 (by omega) ?_
  refine V.icmp_gt aL_law_23 (tgt := 781) (by decide) (fun c23 => ?_) (fun c23 => ?_)
  · refine V.iconst aL_law_781 (by decide) ?_
    exact hend _ _ _ _ _ (by decide) (by decide)
  · exfalso
    omega
end

