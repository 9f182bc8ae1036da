-- the law's run
section
variable {G : GX} {Qf : QF} {t0 b L : Nat}
theorem law_run {m0 : Mem} {sz0 : Nat} {h0 : Int → Int} (hG : G.2.2.2 = t0) (hb : b < G.2.2.1) (hts : t0 < G.2.2.1) (hbt : b = t0 → L = 0) (hL : L ≤ 260) (ht : m0 t0 = iar 0 h0) (sb : SB m0 b L)
    (hend : ∀ (sz : Nat) (m : Mem) (k q : Nat) (L1 : List (Option LW)), k ≤ 600000 → q ≤ 7302250 → Vw G kL_law room_1 Qf 552 L1 [wi 1] sz m k q) : Vw G kL_law room_1 Qf 0 [some (wr (some b)), none, none, none, none, none, none, none, none, none] [] sz0 m0 0 0 := by
  subst hG
  refine wall_L_pages aL_law_0 gl_RL_184 (okwKeep hts hb (okw_pages ht hts)) (Nat.le_of_ble_eq_true rfl) (by decide) (gwQ (fun z1 m1 h1 => ?_))
  have ht1 := h1.1.trans ht
  have sb1 : SB m1 b L := by
    unfold SB
    rw [h1.2]
    exact sb
  refine Vw.if_eq aL_law_3 (tgt := 12) (by decide) (fun c3 => absurd c3 (by decide)) (fun c3 => ?_)
  refine wall_L_texts aL_law_6 gl_RL_188 (okwKeep hts hb (okw_texts ht1 hts)) (Nat.le_of_ble_eq_true rfl) (by decide) (gwQ (fun X m2 h2 => ?_))
  have ht2 := h2.1.trans ht1
  have sb2 : SB m2 b L := by
    unfold SB
    rw [h2.2]
    exact sb1
  refine Vw.if_ne aL_law_9 (tgt := 14) (by decide) (fun c9 => ?_) (fun c9 => absurd c9 (by decide))
  refine Vw.knowS (fun _ hle => ?_)
  refine Vw.new aL_law_14 nl_RL_14 (by decide) ?_
  refine Vw.dup aL_law_17 ?_
  refine wall_X5_init aL_law_18 gl_RL_76 (ok_init5 upM_s) (Nat.le_of_ble_eq_true rfl) (by decide) (gwN (fun z4 m4 h4 => ?_))
  obtain ⟨rfl, hN⟩ := h4
  refine Vw.ast1 aL_law_21 rfl ?_
  refine Vw.bipush aL_law_22 (by decide) (by decide) ?_
  refine Vw.newl aL_law_24 (by decide) (by decide) ?_
  refine Vw.ast2 aL_law_26 rfl ?_
  refine Vw.iconst aL_law_27 (by decide) ?_
  refine Vw.ist3 aL_law_28 rfl ?_
  refine Vw.iconst aL_law_29 (by decide) ?_
  refine Vw.ist4 aL_law_30 rfl ?_
  have ht4 : upM m2 X (obj 5 [.inr none, .inr none, .inl 0, .inr none, .inl 0, .inr none, .inl 0]) G.2.2.2 = iar 0 h0 := (upM_n (by omega)).trans ht2
  have kh := khStart (Z := X + 158) (hs := fun _ _ => 0) (M := upM m4 (X + 157) (lar 64 (fun _ => 0))) hN ht4 (by omega) (fun a ha => upM_n (by omega)) (by omega) (fun a a0 a1 => by rw [show a = X + 157 by omega, upM_s]; exact lar_nu)
  have sb4 : SB (upM m4 (X + 157) (lar 64 (fun _ => 0))) b L := by
    unfold SB
    rw [upM_n (by omega), hN.2.2.2.2.2.2 b (by omega), upM_n (by omega)]
    exact sb2
  exact law_loop rfl ⟨hb, hle⟩ hbt hL (fun acts s hs sv f mb M sz k2 q x5 x6 x7 x8 x9 ha kh hm hz hv r hk hq => law_last ha kh hm hz hv r hk hq hend) 24 0 0 iniS (fun _ _ => 0) 0 (fun _ => 0) _ _ _ _ _ _ _ _ _ _ (by decide) (by decide) (by decide) kh upM_s (by omega) sb4 (by decide) (fun i i0 i1 => by omega) (by decide) (by decide)
end

