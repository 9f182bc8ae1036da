-- the law's loops
section
variable {G : GX} {y : MK} {R : Room} {Qf : QF} {pc pc' : Nat} {L : List (Option LW)} {st : List LW} {sz : Nat} {m : Mem} {k2 n2 : Nat}
theorem gwX (kk : ∀ x : Int, Vw G y R Qf pc' L (wi x :: st) sz m k2 n2) : ∀ (r : Option LW) (z : Nat) (m' : Mem), ((∃ x : Int, r = some (wi x)) ∧ z = sz ∧ m' = m) → Vw G y R Qf pc' L (r.toList ++ st) z m' k2 n2 := by
  rintro r z m' ⟨⟨x, rfl⟩, rfl, rfl⟩
  exact kk x
end
section
variable {G : GX} {Qf : QF} {X t0 b L : Nat} {c : Int → Int} {tx : Int → Int} {ln : Int}
theorem law_loop (hG : G.2.2.2 = t0) (hb : b < G.2.2.1 ∧ G.2.2.1 ≤ X) (hbt : b = t0 → L = 0) (hL : L ≤ 260)
    (K : ∀ (acts : Int) (s : Int → Int) (hs : Int → Int → Int) (sv : Int) (f : Int → Int64) (mb M : Mem) (sz k2 q : Nat) (x5 x6 x7 x8 x9 : Option LW), 0 ≤ acts ∧ acts ≤ 24 → KH M X (X + 158) t0 mb 24 s hs c sv 0 tx ln → mb (X + 157) = lar 64 f → X + 158 ≤ sz → (acts ≤ 3 → sv = acts) ∧ (4 ≤ acts → sv = 4) → (∀ i, 0 ≤ i → i < sv → seenZ (hs i) = f (acts - sv + i)) → k2 ≤ 9100 → q ≤ 112000 → Vw G kL_law room_1 Qf 387 [some (wr (some b)), some (wr (some X)), some (wr (some (X + 157))), some (wi acts), some (wi 24), x5, x6, x7, x8, x9] [] sz M k2 q) :
    ∀ (n : Nat) (k acts : Int) (s : Int → Int) (hs : Int → Int → Int) (sv : Int) (f : Int → Int64) (mb M : Mem) (sz k2 q : Nat) (x5 x6 x7 x8 x9 : Option LW), 24 - k = n → 0 ≤ k → 0 ≤ acts ∧ acts ≤ k → KH M X (X + 158) t0 mb k s hs c sv 0 tx ln → mb (X + 157) = lar 64 f → X + 158 ≤ sz → SB M b L → (acts ≤ 3 → sv = acts) ∧ (4 ≤ acts → sv = 4) → (∀ i, 0 ≤ i → i < sv → seenZ (hs i) = f (acts - sv + i)) → k2 ≤ 9000 + 3 * k → q ≤ 110000 + 28 * k → Vw G kL_law room_1 Qf 32 [some (wr (some b)), some (wr (some X)), some (wr (some (X + 157))), some (wi acts), some (wi k), x5, x6, x7, x8, x9] [] sz M k2 q := by
  intro n
  induction n with
  | zero =>
    intro k acts s hs sv f mb M sz k2 q x5 x6 x7 x8 x9 hn h0 ha kh hm hz sb hv r hk hq
    have e : k = 24 := by omega
    subst e
    refine Vw.ild4 aL_law_32 ?_
    refine Vw.bipush aL_law_34 (by decide) (by decide) ?_
    refine Vw.icmp_ge aL_law_36 (tgt := 387) (by decide) (fun c36 => ?_) (fun c36 => by exfalso; omega)
    exact K acts s hs sv f mb M sz k2 q x5 x6 x7 x8 x9 ha kh hm hz hv r (by omega) (by omega)
  | succ n ih =>
    intro k acts s hs sv f mb M sz k2 q x5 x6 x7 x8 x9 hn h0 ha kh0 hm hz sb0 hv r hk hq
    have hrow : M (X + 157) = lar 64 f := (kh0.fr (X + 157) (Nat.le_refl _) (by omega)).1.trans hm
    have hsv := kh0.svb
    have hI := kh0.inv.num
    have hC : k + 1 ≤ 20000 := by omega
    have hs0 := okw_seen (G := G) (sz := sz) kh0
    have kh := khRow (cc := lar 64 (upI f acts (seenZ s))) kh0 lar_nu
    have sb : SB (upM M (X + 157) (lar 64 (upI f acts (seenZ s)))) b L := by
      unfold SB
      rw [upM_n (by omega)]
      exact sb0
    obtain ⟨fs, ho⟩ := kh.o
    have tail : ∀ (a : Int) (z : Nat) (m' : Mem) (k' q' : Nat) (y5 y6 y8 : Int) (y9 : Option LW), sz ≤ z → actB X (X + 158) t0 (upM M (X + 157) (lar 64 (upI f acts (seenZ s)))) k s hs c sv 0 tx ln b L a m' → k' ≤ 9003 + 3 * k → q' ≤ 110028 + 28 * k → Vw G kL_law room_1 Qf 337 [some (wr (some b)), some (wr (some X)), some (wr (some (X + 157))), some (wi acts), some (wi k), some (wi y5), some (wi y6), some (wi sv), some (wi y8), y9] [wi a] z m' k' q' := by
      intro a z m' k' q' y5 y6 y8 y9 hz2 hd hk2 hq2
      obtain ⟨hd, sb3⟩ := hd
      rcases hd with ⟨hneg, k3⟩ | ⟨hpos, s1, k3⟩
      · obtain ⟨fs, ho⟩ := k3.o
        have hrow3 : m' (X + 157) = lar 64 (upI f acts (seenZ s)) := (k3.fr _ (Nat.le_refl _) (by omega)).1.trans upM_s
        refine Vw.ist9 aL_law_337 rfl ?_
        refine Vw.ild9 aL_law_339 ?_
        refine Vw.if_ge aL_law_341 (tgt := 368) (by decide) (fun c341 => by exfalso; omega) (fun c341 => ?_)
        refine Vw.ald1 aL_law_344 ?_
        refine Vw.bipush aL_law_345 (by decide) (by decide) ?_
        refine wall_X5_count aL_law_347 gl_RL_13 (gt_count12 k3) ho (Nat.le_of_ble_eq_true rfl) ⟨by decide, (by show _ ≤ 600000; omega), (by show _ ≤ 7302250; omega)⟩ (gwL ?_)
        refine Vw.ild7 aL_law_350 ?_
        refine Vw.icmp_ne aL_law_352 (tgt := 366) (by decide) (fun c352 => absurd c352 (fun q => q rfl)) (fun c352 => ?_)
        refine Vw.ald1 aL_law_355 ?_
        refine wall_L_seen aL_law_356 gl_RL_66 (okw_seen k3) (Nat.le_of_ble_eq_true rfl) ⟨by decide, (by show _ ≤ 600000; omega), (by show _ ≤ 7302250; omega)⟩ (gwQ (fun z356 m356 h356 => ?_))
        obtain ⟨rfl, rfl⟩ := h356
        refine Vw.ald2 aL_law_359 ?_
        refine Vw.ild3 aL_law_360 ?_
        refine Vw.lald aL_law_361 hrow3 (by omega) (by omega) ?_
        refine Vw.lcmp aL_law_362 ?_
        refine Vw.if_eq aL_law_363 (tgt := 368) (by decide) (fun c363 => ?_) (fun c363 => absurd c363 (fun q => q (lcmpZ_0.mpr (by rw [upI_s]))))
        refine Vw.ild3 aL_law_368 ?_
        refine Vw.ild9 aL_law_369 ?_
        refine Vw.if_ge aL_law_371 (tgt := 378) (by decide) (fun c371 => by exfalso; omega) (fun c371 => ?_)
        refine Vw.iconst aL_law_374 (by decide) ?_
        refine Vw.goto aL_law_375 (tgt := 379) (by decide) ?_
        refine Vw.iadd aL_law_379 (by omega) ?_
        refine Vw.ist3 aL_law_380 rfl ?_
        refine Vw.inc4 aL_law_381 (by omega) rfl ?_
        refine Vw.goto aL_law_384 (tgt := 32) (by decide) ?_
        exact ih (k + 1) (acts + 0) s hs sv (upI f acts (seenZ s)) _ _ _ _ _ _ _ _ _ _ (by omega) (by omega) (by omega) k3 upM_s (by omega) sb3 (by omega) (fun i i0 i1 => by rw [r i i0 i1, upI_n (by omega)]; congr 1; omega) (by omega) (by omega)
      · have hrb := recV_b hsv
        refine Vw.ist9 aL_law_337 rfl ?_
        refine Vw.ild9 aL_law_339 ?_
        refine Vw.if_ge aL_law_341 (tgt := 368) (by decide) (fun c341 => ?_) (fun c341 => by exfalso; omega)
        refine Vw.ild3 aL_law_368 ?_
        refine Vw.ild9 aL_law_369 ?_
        refine Vw.if_ge aL_law_371 (tgt := 378) (by decide) (fun c371 => ?_) (fun c371 => by exfalso; omega)
        refine Vw.iconst aL_law_378 (by decide) ?_
        refine Vw.iadd aL_law_379 (by omega) ?_
        refine Vw.ist3 aL_law_380 rfl ?_
        refine Vw.inc4 aL_law_381 (by omega) rfl ?_
        refine Vw.goto aL_law_384 (tgt := 32) (by decide) ?_
        exact ih (k + 1) (acts + 1) s1 (recH hs sv s) (recV sv) (upI f acts (seenZ s)) _ _ _ _ _ _ _ _ _ _ (by omega) (by omega) (by omega) k3 upM_s (by omega) sb3 (by rw [hrb.1]; constructor <;> intro q <;> split <;> omega) (rec1 (f := upI f acts (seenZ s)) hsv hv (fun i i0 i1 => by rw [r i i0 i1, upI_n (by omega)]) upI_s) (by omega) (by omega)
    refine Vw.ild4 aL_law_32 ?_
    refine Vw.bipush aL_law_34 (by decide) (by decide) ?_
    refine Vw.icmp_ge aL_law_36 (tgt := 387) (by decide) (fun c36 => by exfalso; omega) (fun c36 => ?_)
    refine Vw.ald0 aL_law_39 ?_
    refine Vw.ild4 aL_law_40 ?_
    refine wall_L_drawn aL_law_42 gl_RL_191 (okw_drawn sb0 hL (by omega)) (Nat.le_of_ble_eq_true rfl) ⟨by decide, (by show _ ≤ 600000; omega), (by show _ ≤ 7302250; omega)⟩ (gwX (fun x => ?_))
    refine Vw.ist5 aL_law_45 rfl ?_
    refine Vw.ild5 aL_law_47 ?_
    refine Vw.bipush aL_law_49 (by decide) (by decide) ?_
    refine wall_L_part aL_law_51 gl_RL_195 (okw_part (by decide)) (Nat.le_of_ble_eq_true rfl) ⟨by decide, (by show _ ≤ 600000; omega), (by show _ ≤ 7302250; omega)⟩ (gwI ?_)
    refine Vw.ist6 aL_law_54 rfl ?_
    refine Vw.ald2 aL_law_56 ?_
    refine Vw.ild3 aL_law_57 ?_
    refine Vw.ald1 aL_law_58 ?_
    refine wall_L_seen aL_law_59 gl_RL_66 (hs0) (Nat.le_of_ble_eq_true rfl) ⟨by decide, (by show _ ≤ 600000; omega), (by show _ ≤ 7302250; omega)⟩ (gwQ (fun z59 m59 h59 => ?_))
    obtain ⟨rfl, rfl⟩ := h59
    refine Vw.last aL_law_62 hrow (by omega) (by omega) ?_
    refine Vw.ald1 aL_law_63 ?_
    refine Vw.bipush aL_law_64 (by decide) (by decide) ?_
    refine wall_X5_count aL_law_66 gl_RL_13 (gt_count12 kh) ho (Nat.le_of_ble_eq_true rfl) ⟨by decide, (by show _ ≤ 600000; omega), (by show _ ≤ 7302250; omega)⟩ (gwL ?_)
    refine Vw.ist7 aL_law_69 rfl ?_
    refine Vw.ild5 aL_law_71 ?_
    refine Vw.iconst aL_law_73 (by decide) ?_
    refine Vw.ishr aL_law_74 (fun z74 i74 => ?_)
    refine Vw.bipush aL_law_75 (by decide) (by decide) ?_
    refine wall_L_part aL_law_77 gl_RL_195 (okw_part (by decide)) (Nat.le_of_ble_eq_true rfl) ⟨by decide, (by show _ ≤ 600000; omega), (by show _ ≤ 7302250; omega)⟩ (gwI ?_)
    refine Vw.ist8 aL_law_80 rfl ?_
    refine Vw.ild6 aL_law_82 ?_
    refine Vw.if_ne aL_law_84 (tgt := 94) (by decide) (fun c84 => ?_) (fun c84 => ?_)
    · refine Vw.ild6 aL_law_94 ?_
      refine Vw.iconst aL_law_96 (by decide) ?_
      refine Vw.icmp_ne aL_law_97 (tgt := 109) (by decide) (fun c97 => ?_) (fun c97 => ?_)
      · refine Vw.ild6 aL_law_109 ?_
        refine Vw.iconst aL_law_111 (by decide) ?_
        refine Vw.icmp_ne aL_law_112 (tgt := 122) (by decide) (fun c112 => ?_) (fun c112 => ?_)
        · refine Vw.ild6 aL_law_122 ?_
          refine Vw.iconst aL_law_124 (by decide) ?_
          refine Vw.icmp_ne aL_law_125 (tgt := 144) (by decide) (fun c125 => ?_) (fun c125 => ?_)
          · refine Vw.ild6 aL_law_144 ?_
            refine Vw.iconst aL_law_146 (by decide) ?_
            refine Vw.icmp_ne aL_law_147 (tgt := 170) (by decide) (fun c147 => ?_) (fun c147 => ?_)
            · refine Vw.ild6 aL_law_170 ?_
              refine Vw.iconst aL_law_172 (by decide) ?_
              refine Vw.icmp_ne aL_law_173 (tgt := 183) (by decide) (fun c173 => ?_) (fun c173 => ?_)
              · refine Vw.ild6 aL_law_183 ?_
                refine Vw.bipush aL_law_185 (by decide) (by decide) ?_
                refine Vw.icmp_ne aL_law_187 (tgt := 199) (by decide) (fun c187 => ?_) (fun c187 => ?_)
                · refine Vw.ild6 aL_law_199 ?_
                  refine Vw.bipush aL_law_201 (by decide) (by decide) ?_
                  refine Vw.icmp_ne aL_law_203 (tgt := 227) (by decide) (fun c203 => ?_) (fun c203 => ?_)
                  · refine Vw.ild6 aL_law_227 ?_
                    refine Vw.bipush aL_law_229 (by decide) (by decide) ?_
                    refine Vw.icmp_ne aL_law_231 (tgt := 255) (by decide) (fun c231 => ?_) (fun c231 => ?_)
                    · refine Vw.ild6 aL_law_255 ?_
                      refine Vw.bipush aL_law_257 (by decide) (by decide) ?_
                      refine Vw.icmp_ne aL_law_259 (tgt := 298) (by decide) (fun c259 => ?_) (fun c259 => ?_)
                      · refine Vw.ald1 aL_law_298 ?_
                        refine Vw.ild8 aL_law_299 ?_
                        refine Vw.ild5 aL_law_301 ?_
                        refine Vw.bipush aL_law_303 (by decide) (by decide) ?_
                        refine Vw.ishr aL_law_305 (fun z305 i305 => ?_)
                        refine Vw.bipush aL_law_306 (by decide) (by decide) ?_
                        refine wall_L_part aL_law_308 gl_RL_195 (okw_part (by decide)) (Nat.le_of_ble_eq_true rfl) ⟨by decide, (by show _ ≤ 600000; omega), (by show _ ≤ 7302250; omega)⟩ (gwI ?_)
                        refine Vw.bipush aL_law_311 (by decide) (by decide) ?_
                        refine Vw.ild5 aL_law_313 ?_
                        refine Vw.bipush aL_law_315 (by decide) (by decide) ?_
                        refine Vw.ishr aL_law_317 (fun z317 i317 => ?_)
                        refine Vw.bipush aL_law_318 (by decide) (by decide) ?_
                        refine wall_L_part aL_law_320 gl_RL_195 (okw_part (by decide)) (Nat.le_of_ble_eq_true rfl) ⟨by decide, (by show _ ≤ 600000; omega), (by show _ ≤ 7302250; omega)⟩ (gwI ?_)
                        refine Vw.iadd aL_law_323 (by omega) ?_
                        refine Vw.ild5 aL_law_324 ?_
                        refine Vw.bipush aL_law_326 (by decide) (by decide) ?_
                        refine Vw.ishr aL_law_328 (fun z328 i328 => ?_)
                        refine Vw.bipush aL_law_329 (by decide) (by decide) ?_
                        refine wall_L_part aL_law_331 gl_RL_195 (okw_part (by decide)) (Nat.le_of_ble_eq_true rfl) ⟨by decide, (by show _ ≤ 600000; omega), (by show _ ≤ 7302250; omega)⟩ (gwI ?_)
                        refine wall_X5_fill aL_law_334 gl_RL_32 (gaB hb sb hbt (ga_fill kh hC hG (by omega) (by omega) (by omega))) ho (Nat.le_of_ble_eq_true rfl) ⟨by decide, (by show _ ≤ 600000; omega), (by show _ ≤ 7302250; omega)⟩ (gwA (fun a z m' hz2 hd => ?_))
                        exact tail _ _ _ _ _ _ _ _ _ hz2 hd (by omega) (by omega)
                      · refine Vw.ald1 aL_law_262 ?_
                        refine Vw.iconst aL_law_263 (by decide) ?_
                        refine wall_X5_count aL_law_264 gl_RL_13 (gt_count1 kh) ho (Nat.le_of_ble_eq_true rfl) ⟨by decide, (by show _ ≤ 600000; omega), (by show _ ≤ 7302250; omega)⟩ (gwL ?_)
                        refine Vw.if_le aL_law_267 (tgt := 298) (by decide) (fun c267 => ?_) (fun c267 => ?_)
                        · refine Vw.ald1 aL_law_298 ?_
                          refine Vw.ild8 aL_law_299 ?_
                          refine Vw.ild5 aL_law_301 ?_
                          refine Vw.bipush aL_law_303 (by decide) (by decide) ?_
                          refine Vw.ishr aL_law_305 (fun z305 i305 => ?_)
                          refine Vw.bipush aL_law_306 (by decide) (by decide) ?_
                          refine wall_L_part aL_law_308 gl_RL_195 (okw_part (by decide)) (Nat.le_of_ble_eq_true rfl) ⟨by decide, (by show _ ≤ 600000; omega), (by show _ ≤ 7302250; omega)⟩ (gwI ?_)
                          refine Vw.bipush aL_law_311 (by decide) (by decide) ?_
                          refine Vw.ild5 aL_law_313 ?_
                          refine Vw.bipush aL_law_315 (by decide) (by decide) ?_
                          refine Vw.ishr aL_law_317 (fun z317 i317 => ?_)
                          refine Vw.bipush aL_law_318 (by decide) (by decide) ?_
                          refine wall_L_part aL_law_320 gl_RL_195 (okw_part (by decide)) (Nat.le_of_ble_eq_true rfl) ⟨by decide, (by show _ ≤ 600000; omega), (by show _ ≤ 7302250; omega)⟩ (gwI ?_)
                          refine Vw.iadd aL_law_323 (by omega) ?_
                          refine Vw.ild5 aL_law_324 ?_
                          refine Vw.bipush aL_law_326 (by decide) (by decide) ?_
                          refine Vw.ishr aL_law_328 (fun z328 i328 => ?_)
                          refine Vw.bipush aL_law_329 (by decide) (by decide) ?_
                          refine wall_L_part aL_law_331 gl_RL_195 (okw_part (by decide)) (Nat.le_of_ble_eq_true rfl) ⟨by decide, (by show _ ≤ 600000; omega), (by show _ ≤ 7302250; omega)⟩ (gwI ?_)
                          refine wall_X5_fill aL_law_334 gl_RL_32 (gaB hb sb hbt (ga_fill kh hC hG (by omega) (by omega) (by omega))) ho (Nat.le_of_ble_eq_true rfl) ⟨by decide, (by show _ ≤ 600000; omega), (by show _ ≤ 7302250; omega)⟩ (gwA (fun a z m' hz2 hd => ?_))
                          exact tail _ _ _ _ _ _ _ _ _ hz2 hd (by omega) (by omega)
                        · refine Vw.ald1 aL_law_270 ?_
                          refine Vw.ald1 aL_law_271 ?_
                          refine Vw.iconst aL_law_272 (by decide) ?_
                          refine wall_X5_count aL_law_273 gl_RL_13 (gt_count0 kh) ho (Nat.le_of_ble_eq_true rfl) ⟨by decide, (by show _ ≤ 600000; omega), (by show _ ≤ 7302250; omega)⟩ (gwL ?_)
                          refine Vw.iconst aL_law_276 (by decide) ?_
                          refine Vw.isub aL_law_277 (by omega) ?_
                          refine Vw.ild5 aL_law_278 ?_
                          refine Vw.bipush aL_law_280 (by decide) (by decide) ?_
                          refine Vw.ishr aL_law_282 (fun z282 i282 => ?_)
                          refine Vw.ald1 aL_law_283 ?_
                          refine Vw.iconst aL_law_284 (by decide) ?_
                          refine wall_X5_count aL_law_285 gl_RL_13 (gt_count1 kh) ho (Nat.le_of_ble_eq_true rfl) ⟨by decide, (by show _ ≤ 600000; omega), (by show _ ≤ 7302250; omega)⟩ (gwL ?_)
                          refine wall_L_part aL_law_288 gl_RL_195 (okw_part (by omega)) (Nat.le_of_ble_eq_true rfl) ⟨by decide, (by show _ ≤ 600000; omega), (by show _ ≤ 7302250; omega)⟩ (gwI ?_)
                          have q1 := Int.emod_nonneg (z282 % 2147483648) (show s 3 - s 2 ≠ 0 by omega)
                          have q2 := Int.emod_lt_of_pos (z282 % 2147483648) (show 0 < s 3 - s 2 by omega)
                          refine Vw.isub aL_law_291 (by omega) ?_
                          refine wall_X5_damage aL_law_292 gl_RL_56 (gaB hb sb hbt (ga_damage kh hC (by omega) (by omega))) ho (Nat.le_of_ble_eq_true rfl) ⟨by decide, (by show _ ≤ 600000; omega), (by show _ ≤ 7302250; omega)⟩ (gwA (fun a z m' hz2 hd => ?_))
                          refine Vw.goto aL_law_295 (tgt := 337) (by decide) ?_
                          exact tail _ _ _ _ _ _ _ _ _ hz2 hd (by omega) (by omega)
                    · refine Vw.ald1 aL_law_234 ?_
                      refine Vw.ild8 aL_law_235 ?_
                      refine Vw.iconst aL_law_237 (by decide) ?_
                      refine Vw.ild5 aL_law_238 ?_
                      refine Vw.bipush aL_law_240 (by decide) (by decide) ?_
                      refine Vw.ishr aL_law_242 (fun z242 i242 => ?_)
                      refine Vw.bipush aL_law_243 (by decide) (by decide) ?_
                      refine wall_L_part aL_law_245 gl_RL_195 (okw_part (by decide)) (Nat.le_of_ble_eq_true rfl) ⟨by decide, (by show _ ≤ 600000; omega), (by show _ ≤ 7302250; omega)⟩ (gwI ?_)
                      refine Vw.iconst aL_law_248 (by decide) ?_
                      refine wall_X5_add aL_law_249 gl_RL_38 (gaB hb sb hbt (ga_add kh hC hG (by omega) (by omega) (by omega))) ho (Nat.le_of_ble_eq_true rfl) ⟨by decide, (by show _ ≤ 600000; omega), (by show _ ≤ 7302250; omega)⟩ (gwA (fun a z m' hz2 hd => ?_))
                      refine Vw.goto aL_law_252 (tgt := 337) (by decide) ?_
                      exact tail _ _ _ _ _ _ _ _ _ hz2 hd (by omega) (by omega)
                  · refine Vw.ald1 aL_law_206 ?_
                    refine Vw.ild8 aL_law_207 ?_
                    refine Vw.iconst aL_law_209 (by decide) ?_
                    refine Vw.ild5 aL_law_210 ?_
                    refine Vw.bipush aL_law_212 (by decide) (by decide) ?_
                    refine Vw.ishr aL_law_214 (fun z214 i214 => ?_)
                    refine Vw.bipush aL_law_215 (by decide) (by decide) ?_
                    refine wall_L_part aL_law_217 gl_RL_195 (okw_part (by decide)) (Nat.le_of_ble_eq_true rfl) ⟨by decide, (by show _ ≤ 600000; omega), (by show _ ≤ 7302250; omega)⟩ (gwI ?_)
                    refine Vw.iadd aL_law_220 (by omega) ?_
                    refine wall_X5_turn aL_law_221 gl_RL_41 (gaB hb sb hbt (ga_turn kh hC hG (by omega) (by omega) (by omega))) ho (Nat.le_of_ble_eq_true rfl) ⟨by decide, (by show _ ≤ 600000; omega), (by show _ ≤ 7302250; omega)⟩ (gwA (fun a z m' hz2 hd => ?_))
                    refine Vw.goto aL_law_224 (tgt := 337) (by decide) ?_
                    exact tail _ _ _ _ _ _ _ _ _ hz2 hd (by omega) (by omega)
                · refine Vw.ald1 aL_law_190 ?_
                  refine Vw.ild8 aL_law_191 ?_
                  refine wall_X5_renew aL_law_193 gl_RL_44 (gaB hb sb hbt (ga_renew kh hC hG (by omega) (by omega))) ho (Nat.le_of_ble_eq_true rfl) ⟨by decide, (by show _ ≤ 600000; omega), (by show _ ≤ 7302250; omega)⟩ (gwA (fun a z m' hz2 hd => ?_))
                  refine Vw.goto aL_law_196 (tgt := 337) (by decide) ?_
                  exact tail _ _ _ _ _ _ _ _ _ hz2 hd (by omega) (by omega)
              · refine Vw.ald1 aL_law_176 ?_
                refine wall_X5_crash aL_law_177 gl_RL_101 (gaB hb sb hbt (ga_crashP kh hC)) ho (Nat.le_of_ble_eq_true rfl) ⟨by decide, (by show _ ≤ 600000; omega), (by show _ ≤ 7302250; omega)⟩ (gwA (fun a z m' hz2 hd => ?_))
                refine Vw.goto aL_law_180 (tgt := 337) (by decide) ?_
                exact tail _ _ _ _ _ _ _ _ _ hz2 hd (by omega) (by omega)
            · refine Vw.ald1 aL_law_150 ?_
              refine Vw.bipush aL_law_151 (by decide) (by decide) ?_
              refine Vw.ild5 aL_law_153 ?_
              refine Vw.bipush aL_law_155 (by decide) (by decide) ?_
              refine Vw.ishr aL_law_157 (fun z157 i157 => ?_)
              refine Vw.bipush aL_law_158 (by decide) (by decide) ?_
              refine wall_L_part aL_law_160 gl_RL_195 (okw_part (by decide)) (Nat.le_of_ble_eq_true rfl) ⟨by decide, (by show _ ≤ 600000; omega), (by show _ ≤ 7302250; omega)⟩ (gwI ?_)
              refine Vw.iadd aL_law_163 (by omega) ?_
              refine wall_X5_setRoom aL_law_164 gl_RL_50 (gaB hb sb hbt (ga_setRoom kh hC (by omega))) ho (Nat.le_of_ble_eq_true rfl) ⟨by decide, (by show _ ≤ 600000; omega), (by show _ ≤ 7302250; omega)⟩ (gwA (fun a z m' hz2 hd => ?_))
              refine Vw.goto aL_law_167 (tgt := 337) (by decide) ?_
              exact tail _ _ _ _ _ _ _ _ _ hz2 hd (by omega) (by omega)
          · refine Vw.ald1 aL_law_128 ?_
            refine Vw.ild5 aL_law_129 ?_
            refine Vw.bipush aL_law_131 (by decide) (by decide) ?_
            refine Vw.ishr aL_law_133 (fun z133 i133 => ?_)
            refine Vw.iconst aL_law_134 (by decide) ?_
            refine wall_L_part aL_law_135 gl_RL_195 (okw_part (by decide)) (Nat.le_of_ble_eq_true rfl) ⟨by decide, (by show _ ≤ 600000; omega), (by show _ ≤ 7302250; omega)⟩ (gwI ?_)
            refine wall_X5_setWay aL_law_138 gl_RL_47 (gaB hb sb hbt (ga_setWay kh hC (by omega))) ho (Nat.le_of_ble_eq_true rfl) ⟨by decide, (by show _ ≤ 600000; omega), (by show _ ≤ 7302250; omega)⟩ (gwA (fun a z m' hz2 hd => ?_))
            refine Vw.goto aL_law_141 (tgt := 337) (by decide) ?_
            exact tail _ _ _ _ _ _ _ _ _ hz2 hd (by omega) (by omega)
        · refine Vw.ald1 aL_law_115 ?_
          refine wall_X5_trim aL_law_116 gl_RL_87 (gaB hb sb hbt (ga_trim kh hC)) ho (Nat.le_of_ble_eq_true rfl) ⟨by decide, (by show _ ≤ 600000; omega), (by show _ ≤ 7302250; omega)⟩ (gwA (fun a z m' hz2 hd => ?_))
          refine Vw.goto aL_law_119 (tgt := 337) (by decide) ?_
          exact tail _ _ _ _ _ _ _ _ _ hz2 hd (by omega) (by omega)
      · refine Vw.ald1 aL_law_100 ?_
        refine Vw.ild8 aL_law_101 ?_
        refine wall_X5_store aL_law_103 gl_RL_53 (gaB hb sb hbt (ga_store kh hC (by omega))) ho (Nat.le_of_ble_eq_true rfl) ⟨by decide, (by show _ ≤ 600000; omega), (by show _ ≤ 7302250; omega)⟩ (gwA (fun a z m' hz2 hd => ?_))
        refine Vw.goto aL_law_106 (tgt := 337) (by decide) ?_
        exact tail _ _ _ _ _ _ _ _ _ hz2 hd (by omega) (by omega)
    · refine Vw.ald1 aL_law_87 ?_
      refine wall_X5_flush aL_law_88 gl_RL_84 (gaB hb sb hbt (ga_flush kh hC)) ho (Nat.le_of_ble_eq_true rfl) ⟨by decide, (by show _ ≤ 600000; omega), (by show _ ≤ 7302250; omega)⟩ (gwA (fun a z m' hz2 hd => ?_))
      refine Vw.goto aL_law_91 (tgt := 337) (by decide) ?_
      exact tail _ _ _ _ _ _ _ _ _ hz2 hd (by omega) (by omega)
end

