-- the fault of a text
theorem txt0 {tx : Int → Int} {ln : Int} (h : ¬ seesP tx ln 0 48 53) : (txtP tx ln 100 Zr 0).1 = 0 ∧ (txtP tx ln 100 Zr 0).2.1 = 0 := by
  have e : ordP tx ln Zr 0 = (0, 0, Zr) := if_neg h
  have e2 : txtP tx ln 100 Zr 0 = (0, 0, Zr) := by
    unfold txtP
    rw [e]
    exact if_pos rfl
  rw [e2]
  exact ⟨rfl, rfl⟩
section
variable {G : GX} {sz : Nat} {m : Mem} {h0 : Int → Int}
theorem okw_faultF {o1 o2 : Int64} {t1 t2 : List Int} {f : Int} (ht : m G.2.2.2 = iar 0 h0) (hl : G.2.2.2 < G.2.2.1) (h1 : tyL o1 8 [] = t1) (h2 : tyL o2 8 t1 = t2) (h3 : (txtP (txr t2) (t2.length : Int) 100 Zr 0).1 = 0) (h4 : (txtP (txr t2) (t2.length : Int) 100 Zr 0).2.1 = f) (h5 : 0 ≤ f ∧ f ≤ 100) : OkW G kL_faultOf 8 [wl o1, wl o2] sz m 264 3269 (fun r _ _ => r = some (wi f)) := by
  refine OkW.body [some (wl o1), none, some (wl o2), none, none, none] rfl (Nat.le_of_ble_eq_true rfl) (by decide) ?_
  have l1 : t1.length ≤ 8 := by rw [← h1]; exact tyL_len 8 []
  have l2 : t2.length ≤ 16 := by rw [← h2]; exact Nat.le_trans (tyL_len 8 t1) (by omega)
  refine Vw.knowS (fun _ hle => ?_)
  refine Vw.new aL_faultOf_0 nl_RL_14 (by decide) ?_
  refine Vw.dup aL_faultOf_3 ?_
  refine wall_X5_init aL_faultOf_4 gl_RL_76 (ok_init5 upM_s) (Nat.le_of_ble_eq_true rfl) (by decide) (gwN (fun z4 m4 h4 => ?_))
  obtain ⟨rfl, hN⟩ := h4
  have kh := khStart (Z := sz + 157) (hs := fun _ _ => 0) hN ((upM_n (by omega)).trans ht) (by omega) (fun _ _ => rfl) (Nat.le_refl _) (fun a a0 a1 => by omega)
  have kd : KD G m4 (sz + 157) sz 0 LP0 0 0 (fun _ => 0) 0 := KD.of (Nat.le_refl _) kh (by decide +kernel)
  refine Vw.ast4 aL_faultOf_7 rfl ?_
  refine Vw.ald4 aL_faultOf_9 ?_
  refine Vw.lld0 aL_faultOf_11 ?_
  refine cd_types (t := []) (t2 := t1) kd aL_faultOf_12 gl_RL_114 (by decide) h1 (Nat.le_of_ble_eq_true rfl) (by decide) (fun z m kd => ?_)
  refine Vw.if_eq aL_faultOf_15 (tgt := 27) (by decide) (fun c15 => absurd c15 (by decide)) (fun c15 => ?_)
  refine Vw.ald4 aL_faultOf_18 ?_
  refine Vw.lld2 aL_faultOf_20 ?_
  refine cd_types (t := t1) (t2 := t2) kd aL_faultOf_21 gl_RL_114 (by omega) h2 (Nat.le_of_ble_eq_true rfl) (by decide) (fun z m kd => ?_)
  refine Vw.if_ne aL_faultOf_24 (tgt := 30) (by decide) (fun c24 => ?_) (fun c24 => absurd c24 (by decide))
  refine Vw.ald4 aL_faultOf_30 ?_
  refine cd_ordersF (v := -100 - f) kd aL_faultOf_32 gl_RL_118 (by decide) h3 (by rw [h4]) (Nat.le_of_ble_eq_true rfl) (by decide) (fun z m kd => ?_)
  refine Vw.ist5 aL_faultOf_35 rfl ?_
  refine Vw.ild5 aL_faultOf_37 ?_
  refine Vw.if_lt aL_faultOf_39 (tgt := 46) (by decide) (fun c39 => ?_) (fun c39 => by exfalso; omega)
  refine Vw.bipush aL_faultOf_46 (by decide) (by decide) ?_
  refine Vw.ild5 aL_faultOf_48 ?_
  refine Vw.isub aL_faultOf_50 (by omega) ?_
  refine Vw.iret aL_faultOf_51 rfl (by decide) ?_
  rw [show -100 - (-100 - f) = f by omega]
theorem cd_ordersS {G : GX} {y : MK} {R : Room} {Qf : QF} {pc pc' : Nat} {Lc : List (Option LW)} {st : List LW} {sz : Nat} {m : Mem} {k n idx X : Nat} {C : Int} {L : List (List Int)} {sv ish ln : Int} {tx : Int → Int} (kd : KD G m sz X C L sv ish tx ln) (h : At y pc (.invokevirtual idx) 3 pc') (hl : Cond.methodLink y.1.cls idx yX5_readOrders ∈ GW) (hC : C + 21 ≤ 20000) (hf : (txtP tx ln 100 Zr 0).1 = 1) (h2 : (ordsP tx ln 100 (rowD L) 0).isSome = true) (h8 : cws st ≤ 8) (hr : (6 + 1 ≤ R.frames ∧ 8 + (5 + 11) + 40 * 6 ≤ R.locals) ∧ k + 107 ≤ R.cells ∧ n + 1118 ≤ R.slots) (kk : ∀ (v : Int) (z : Nat) (m' : Mem), 0 ≤ v → Vw G y R Qf pc' Lc (wi v :: st) z m' (k + 107) (n + 1118)) : Vw G y R Qf pc Lc (wr (some X) :: st) sz m k n := by
  obtain ⟨hz, mb, hs, c, kh⟩ := kd
  obtain ⟨fs, ho⟩ := kh.o
  have ok : Ok G kX5_readOrders 6 [.inr (some X)] sz m 107 1118 (fun ret z m' => sz ≤ z ∧ ∃ a : Int, ret = some (.inl a) ∧ 0 ≤ a) := by
    obtain ⟨g, hh, cg, pq, q⟩ := kh
    refine okPost (ok5_orders (b := (rowD L, g)) pq hC rfl hz) (fun r z m' hd => ?_)
    have hd2 := hd.2 hf
    unfold ordersR at hd2
    cases ho2 : ordsP tx ln 100 (rowD L) 0 with
    | none => rw [ho2] at h2; cases h2
    | some t =>
      simp only [ho2] at hd2
      obtain ⟨e0, e1, e2, e3⟩ := hd2
      exact ⟨e2, _, e1, by omega⟩
  exact wall_X5_readOrders h hl ok ho h8 hr (gwA (fun a z m' _ ha => kk a z m' ha))
theorem okw_faultN {o1 o2 : Int64} {t1 t2 : List Int} (ht : m G.2.2.2 = iar 0 h0) (hl : G.2.2.2 < G.2.2.1) (h1 : tyL o1 8 [] = t1) (h2 : tyL o2 8 t1 = t2) (h3 : (txtP (txr t2) (t2.length : Int) 100 Zr 0).1 = 1) (h4 : (ordsP (txr t2) (t2.length : Int) 100 (rowD LP0) 0).isSome = true) : OkW G kL_faultOf 8 [wl o1, wl o2] sz m 264 3269 (fun r _ _ => r = some (wi (-1))) := by
  refine OkW.body [some (wl o1), none, some (wl o2), none, none, none] rfl (Nat.le_of_ble_eq_true rfl) (by decide) ?_
  have l1 : t1.length ≤ 8 := by rw [← h1]; exact tyL_len 8 []
  have l2 : t2.length ≤ 16 := by rw [← h2]; exact Nat.le_trans (tyL_len 8 t1) (by omega)
  refine Vw.knowS (fun _ hle => ?_)
  refine Vw.new aL_faultOf_0 nl_RL_14 (by decide) ?_
  refine Vw.dup aL_faultOf_3 ?_
  refine wall_X5_init aL_faultOf_4 gl_RL_76 (ok_init5 upM_s) (Nat.le_of_ble_eq_true rfl) (by decide) (gwN (fun z4 m4 h4 => ?_))
  obtain ⟨rfl, hN⟩ := h4
  have kh := khStart (Z := sz + 157) (hs := fun _ _ => 0) hN ((upM_n (by omega)).trans ht) (by omega) (fun _ _ => rfl) (Nat.le_refl _) (fun a a0 a1 => by omega)
  have kd : KD G m4 (sz + 157) sz 0 LP0 0 0 (fun _ => 0) 0 := KD.of (Nat.le_refl _) kh (by decide +kernel)
  refine Vw.ast4 aL_faultOf_7 rfl ?_
  refine Vw.ald4 aL_faultOf_9 ?_
  refine Vw.lld0 aL_faultOf_11 ?_
  refine cd_types (t := []) (t2 := t1) kd aL_faultOf_12 gl_RL_114 (by decide) h1 (Nat.le_of_ble_eq_true rfl) (by decide) (fun z m kd => ?_)
  refine Vw.if_eq aL_faultOf_15 (tgt := 27) (by decide) (fun c15 => absurd c15 (by decide)) (fun c15 => ?_)
  refine Vw.ald4 aL_faultOf_18 ?_
  refine Vw.lld2 aL_faultOf_20 ?_
  refine cd_types (t := t1) (t2 := t2) kd aL_faultOf_21 gl_RL_114 (by omega) h2 (Nat.le_of_ble_eq_true rfl) (by decide) (fun z m kd => ?_)
  refine Vw.if_ne aL_faultOf_24 (tgt := 30) (by decide) (fun c24 => ?_) (fun c24 => absurd c24 (by decide))
  refine Vw.ald4 aL_faultOf_30 ?_
  refine cd_ordersS kd aL_faultOf_32 gl_RL_118 (by decide) h3 h4 (Nat.le_of_ble_eq_true rfl) (by decide) (fun v z m hv => ?_)
  refine Vw.ist5 aL_faultOf_35 rfl ?_
  refine Vw.ild5 aL_faultOf_37 ?_
  refine Vw.if_lt aL_faultOf_39 (tgt := 46) (by decide) (fun c39 => by exfalso; omega) (fun c39 => ?_)
  refine Vw.iconst aL_faultOf_42 (by decide) ?_
  refine Vw.goto aL_faultOf_43 (tgt := 51) (by decide) ?_
  refine Vw.iret aL_faultOf_51 rfl (by decide) ?_
  rfl
theorem cd_fault {y : MK} {R : Room} {Qf : QF} {pc pc' : Nat} {Lc : List (Option LW)} {st : List LW} {k n idx : Nat} {o1 o2 : Int64} {f : Int} (ht : m G.2.2.2 = iar 0 h0) (hl : G.2.2.2 < G.2.2.1) (h : At y pc (.invokestatic idx) 3 pc') (hk : Cond.methodLink y.1.cls idx yL_faultOf ∈ GW) (ok : OkW G kL_faultOf 8 [wl o1, wl o2] sz m 264 3269 (fun r _ _ => r = some (wi f))) (h8 : cws st ≤ 8) (hr : (8 + 1 ≤ R.frames ∧ 8 + (6 + 11) + 40 * 8 ≤ R.locals) ∧ k + 264 ≤ R.cells ∧ n + 3269 ≤ R.slots) (kk : ∀ (z : Nat) (m' : Mem), m' G.2.2.2 = iar 0 h0 → Vw G y R Qf pc' Lc (wi f :: st) z m' (k + 264) (n + 3269)) : Vw G y R Qf pc Lc (wl o2 :: wl o1 :: st) sz m k n :=
  wall_L_faultOf h hk (okwKeep hl hl ok) h8 hr (gwQ (fun z m' hd => kk z m' (hd.1.trans ht)))
end

