-- behind the law's first loop
section
variable {G : GX} {Qf : QF} {X t0 b L : Nat} {c : Int → Int} {tx : Int → Int} {ln : Int}
theorem law_undo {s : Int → Int} {acts : Int} {f : Int → Int64} {mb : Mem} {hs : Int → Int → Int} {C : Int} (ha : 0 ≤ acts ∧ acts ≤ 24) (hm : mb (X + 157) = lar 64 f) (hf : f acts = seenZ s)
    (hend : ∀ (sz : Nat) (m : Mem) (k q : Nat) (L1 : List (Option LW)), k ≤ 600000 → q ≤ 7302250 → Vw G kL_law room_1 Qf 552 L1 [wi 1] sz m k q) :
    ∀ (n : Nat) (v j : Int) (sj : Int → Int) (M : Mem) (sz k2 q : Nat) (x6 x7 x8 x9 : Option LW), v = n → 0 ≤ j → j + v ≤ 4 → v ≤ acts - j → KH M X (X + 158) t0 mb C sj hs s v 1 tx ln → seenZ sj = f (acts - j) → (∀ i, 0 ≤ i → i < v → seenZ (hs i) = f (acts - j - v + i)) → k2 ≤ 10000 → q ≤ 120000 → Vw G kL_law room_1 Qf 464 [some (wr (some b)), some (wr (some X)), some (wr (some (X + 157))), some (wi acts), some (wi (s 3)), some (wi j), x6, x7, x8, x9] [] sz M k2 q := by
  intro n
  induction n with
  | zero =>
    intro v j sj M sz k2 q x6 x7 x8 x9 hn h0 h1 h2 kh hj r hk hq
    have e : v = 0 := by omega
    subst e
    obtain ⟨fs, ho⟩ := kh.o
    refine Vw.ald1 aL_law_464 ?_
    refine Vw.bipush aL_law_465 (by decide) (by decide) ?_
    refine wall_X5_count aL_law_467 gl_RL_13 (gt_count12 kh) ho (Nat.le_of_ble_eq_true rfl) ⟨by decide, (by show _ ≤ 600000; omega), (by show _ ≤ 7302250; omega)⟩ (gwL ?_)
    refine Vw.if_le aL_law_470 (tgt := 508) (by decide) (fun c470 => ?_) (fun c470 => absurd c470 (by decide))
    refine Vw.ald1 aL_law_508 ?_
    refine wall_X5_undo aL_law_509 gl_RL_77 (gh_undo0 kh rfl) ho (Nat.le_of_ble_eq_true rfl) ⟨by decide, (by show _ ≤ 600000; omega), (by show _ ≤ 7302250; omega)⟩ (gwL ?_)
    refine Vw.bipush aL_law_512 (by decide) (by decide) ?_
    refine Vw.icmp_ne aL_law_514 (tgt := 551) (by decide) (fun c514 => absurd c514 (by decide)) (fun c514 => ?_)
    refine Vw.ald1 aL_law_517 ?_
    refine wall_X5_restore aL_law_518 gl_RL_81 (gh_restore kh (by decide)) ho (Nat.le_of_ble_eq_true rfl) ⟨by decide, (by show _ ≤ 600000; omega), (by show _ ≤ 7302250; omega)⟩ (gwP (fun z518 m518 h518 => ?_))
    obtain ⟨hz518, kh⟩ := h518
    obtain ⟨fs, ho⟩ := kh.o
    have hrow : m518 (X + 157) = lar 64 f := (kh.fr _ (Nat.le_refl _) (by omega)).1.trans hm
    refine Vw.ild4 aL_law_521 ?_
    refine Vw.icmp_ne aL_law_523 (tgt := 551) (by decide) (fun c523 => absurd c523 (fun q => q rfl)) (fun c523 => ?_)
    refine Vw.ald1 aL_law_526 ?_
    refine wall_L_seen aL_law_527 gl_RL_66 (okw_seen kh) (Nat.le_of_ble_eq_true rfl) ⟨by decide, (by show _ ≤ 600000; omega), (by show _ ≤ 7302250; omega)⟩ (gwQ (fun z527 m527 h527 => ?_))
    obtain ⟨rfl, rfl⟩ := h527
    refine Vw.ald2 aL_law_530 ?_
    refine Vw.ild3 aL_law_531 ?_
    refine Vw.lald aL_law_532 hrow (by omega) (by omega) ?_
    refine Vw.lcmp aL_law_533 ?_
    refine Vw.if_ne aL_law_534 (tgt := 551) (by decide) (fun c534 => absurd c534 (fun q => q (lcmpZ_0.mpr hf.symm))) (fun c534 => ?_)
    refine Vw.ald1 aL_law_537 ?_
    refine Vw.bipush aL_law_538 (by decide) (by decide) ?_
    refine wall_X5_count aL_law_540 gl_RL_13 (gt_count12 kh) ho (Nat.le_of_ble_eq_true rfl) ⟨by decide, (by show _ ≤ 600000; omega), (by show _ ≤ 7302250; omega)⟩ (gwL ?_)
    refine Vw.iconst aL_law_543 (by decide) ?_
    refine Vw.icmp_ne aL_law_544 (tgt := 551) (by decide) (fun c544 => absurd c544 (by decide)) (fun c544 => ?_)
    refine Vw.iconst aL_law_547 (by decide) ?_
    refine Vw.goto aL_law_548 (tgt := 552) (by decide) ?_
    exact hend _ _ _ _ _ (by omega) (by omega)
  | succ n ih =>
    intro v j sj M sz k2 q x6 x7 x8 x9 hn h0 h1 h2 kh hj r hk hq
    obtain ⟨fs, ho⟩ := kh.o
    have hrow : M (X + 157) = lar 64 f := (kh.fr _ (Nat.le_refl _) (by omega)).1.trans hm
    have hs0 := okw_seen (G := G) (sz := sz) kh
    refine Vw.ald1 aL_law_464 ?_
    refine Vw.bipush aL_law_465 (by decide) (by decide) ?_
    refine wall_X5_count aL_law_467 gl_RL_13 (gt_count12 kh) ho (Nat.le_of_ble_eq_true rfl) ⟨by decide, (by show _ ≤ 600000; omega), (by show _ ≤ 7302250; omega)⟩ (gwL ?_)
    refine Vw.if_le aL_law_470 (tgt := 508) (by decide) (fun c470 => by exfalso; omega) (fun c470 => ?_)
    refine Vw.ild5 aL_law_473 ?_
    refine Vw.iconst aL_law_475 (by decide) ?_
    refine Vw.icmp_gt aL_law_476 (tgt := 500) (by decide) (fun c476 => by exfalso; omega) (fun c476 => ?_)
    refine Vw.ald1 aL_law_479 ?_
    refine wall_L_seen aL_law_480 gl_RL_66 (hs0) (Nat.le_of_ble_eq_true rfl) ⟨by decide, (by show _ ≤ 600000; omega), (by show _ ≤ 7302250; omega)⟩ (gwQ (fun z480 m480 h480 => ?_))
    obtain ⟨rfl, rfl⟩ := h480
    refine Vw.ald2 aL_law_483 ?_
    refine Vw.ild3 aL_law_484 ?_
    refine Vw.ild5 aL_law_485 ?_
    refine Vw.isub aL_law_487 (by omega) ?_
    refine Vw.lald aL_law_488 hrow (by omega) (by omega) ?_
    refine Vw.lcmp aL_law_489 ?_
    refine Vw.if_ne aL_law_490 (tgt := 500) (by decide) (fun c490 => absurd c490 (fun q => q (lcmpZ_0.mpr hj))) (fun c490 => ?_)
    refine Vw.ald1 aL_law_493 ?_
    refine wall_X5_undo aL_law_494 gl_RL_77 (gh_undo kh (by omega)) ho (Nat.le_of_ble_eq_true rfl) ⟨by decide, (by show _ ≤ 600000; omega), (by show _ ≤ 7302250; omega)⟩ (gwP (fun z494 m494 h494 => ?_))
    obtain ⟨rfl, kh2⟩ := h494
    refine Vw.if_ge aL_law_497 (tgt := 502) (by decide) (fun c497 => ?_) (fun c497 => by exfalso; omega)
    refine Vw.inc5 aL_law_502 (by omega) rfl ?_
    refine Vw.goto aL_law_505 (tgt := 464) (by decide) ?_
    exact ih (v - 1) (j + 1) (hs (v - 1)) _ _ _ _ _ _ _ _ (by omega) (by omega) (by omega) (by omega) kh2 (by rw [r (v - 1) (by omega) (by omega)]; congr 1; omega) (fun i i0 i1 => by rw [r i i0 (by omega)]; congr 1; omega) (by omega) (by omega)
theorem law_last {acts : Int} {s : Int → Int} {hs : Int → Int → Int} {sv : Int} {f : Int → Int64} {mb M : Mem} {sz k2 q : Nat} {x5 x6 x7 x8 x9 : Option LW} (ha : 0 ≤ acts ∧ acts ≤ 24) (kh0 : KH M X (X + 158) t0 mb 24 s hs c sv 0 tx ln) (hm : mb (X + 157) = lar 64 f) (hz : X + 158 ≤ sz) (hv : (acts ≤ 3 → sv = acts) ∧ (4 ≤ acts → sv = 4)) (r : ∀ i, 0 ≤ i → i < sv → seenZ (hs i) = f (acts - sv + i)) (hk : k2 ≤ 9100) (hq : q ≤ 112000)
    (hend : ∀ (sz : Nat) (m : Mem) (k q : Nat) (L1 : List (Option LW)), k ≤ 600000 → q ≤ 7302250 → Vw G kL_law room_1 Qf 552 L1 [wi 1] sz m k q) : Vw G kL_law room_1 Qf 387 [some (wr (some b)), some (wr (some X)), some (wr (some (X + 157))), some (wi acts), some (wi 24), x5, x6, x7, x8, x9] [] sz M k2 q := by
  have hrow : M (X + 157) = lar 64 f := (kh0.fr (X + 157) (Nat.le_refl _) (by omega)).1.trans hm
  have hsv := kh0.svb
  have hs0 := okw_seen (G := G) (sz := sz) kh0
  have kh := khRow (cc := lar 64 (upI f acts (seenZ s))) kh0 lar_nu
  obtain ⟨fs, ho⟩ := kh.o
  have tail : ∀ (s1 s2 : Int → Int) (z : Nat) (m' : Mem) (k' q' : Nat), KH m' X (X + 158) t0 (upM M (X + 157) (lar 64 (upI f acts (seenZ s)))) 25 s2 (recH (recH hs sv s) (recV sv) s1) s (recV (recV sv)) 1 tx ln → k' ≤ 9200 → q' ≤ 113000 → Vw G kL_law room_1 Qf 437 [some (wr (some b)), some (wr (some X)), some (wr (some (X + 157))), some (wi acts), some (wi (s 3)), x5, x6, x7, x8, x9] [] z m' k' q' := by
    intro s1 s2 z m' k' q' kh hk2 hq2
    obtain ⟨w1, w2, w3, w4, w5⟩ := rec2 (hs := hs) (s := s) (s1 := s1) hsv
    have wb := recV_b (sv := recV sv) (by have := recV_b hsv; omega)
    obtain ⟨fs, ho⟩ := kh.o
    refine Vw.ald1 aL_law_437 ?_
    refine wall_L_refused aL_law_438 gl_RL_104 (okw_refused kh) (Nat.le_of_ble_eq_true rfl) ⟨by decide, (by show _ ≤ 600000; omega), (by show _ ≤ 7302250; omega)⟩ (gwQ (fun z438 m438 h438 => ?_))
    obtain ⟨hz438, kh⟩ := h438
    obtain ⟨fs, ho⟩ := kh.o
    refine Vw.if_eq aL_law_441 (tgt := 459) (by decide) (fun c441 => absurd c441 (by decide)) (fun c441 => ?_)
    refine Vw.ald1 aL_law_444 ?_
    refine wall_X5_undo aL_law_445 gl_RL_77 (gh_undo kh (by omega)) ho (Nat.le_of_ble_eq_true rfl) ⟨by decide, (by show _ ≤ 600000; omega), (by show _ ≤ 7302250; omega)⟩ (gwP (fun z445 m445 h445 => ?_))
    obtain ⟨rfl, kh⟩ := h445
    obtain ⟨fs, ho⟩ := kh.o
    refine Vw.iconst aL_law_448 (by decide) ?_
    refine Vw.icmp_lt aL_law_449 (tgt := 459) (by decide) (fun c449 => by exfalso; omega) (fun c449 => ?_)
    refine Vw.ald1 aL_law_452 ?_
    refine wall_X5_undo aL_law_453 gl_RL_77 (gh_undo kh (by omega)) ho (Nat.le_of_ble_eq_true rfl) ⟨by decide, (by show _ ≤ 600000; omega), (by show _ ≤ 7302250; omega)⟩ (gwP (fun z453 m453 h453 => ?_))
    obtain ⟨rfl, kh⟩ := h453
    rw [w4] at kh
    refine Vw.if_ge aL_law_456 (tgt := 461) (by decide) (fun c456 => ?_) (fun c456 => by exfalso; omega)
    refine Vw.iconst aL_law_461 (by decide) ?_
    refine Vw.ist5 aL_law_462 rfl ?_
    exact law_undo (f := upI f acts (seenZ s)) ha upM_s upI_s hend (recV (recV sv) - 1 - 1).toNat _ 0 s _ _ _ _ _ _ _ _ (by omega) (by decide) (by omega) (by omega) kh (by rw [show acts - 0 = acts by omega, upI_s]) (fun i i0 i1 => by obtain ⟨j, j1, j2, j3, j4⟩ := w5 i i0 i1; rw [j1, r j j2 j3, upI_n (by omega)]; congr 1; omega) (by omega) (by omega)
  refine Vw.ald2 aL_law_387 ?_
  refine Vw.ild3 aL_law_388 ?_
  refine Vw.ald1 aL_law_389 ?_
  refine wall_L_seen aL_law_390 gl_RL_66 (hs0) (Nat.le_of_ble_eq_true rfl) ⟨by decide, (by show _ ≤ 600000; omega), (by show _ ≤ 7302250; omega)⟩ (gwQ (fun z390 m390 h390 => ?_))
  obtain ⟨rfl, rfl⟩ := h390
  refine Vw.last aL_law_393 hrow (by omega) (by omega) ?_
  refine Vw.ald1 aL_law_394 ?_
  refine Vw.iconst aL_law_395 (by decide) ?_
  refine wall_X5_count aL_law_396 gl_RL_13 (gt_count0 kh) ho (Nat.le_of_ble_eq_true rfl) ⟨by decide, (by show _ ≤ 600000; omega), (by show _ ≤ 7302250; omega)⟩ (gwL ?_)
  refine Vw.ist4 aL_law_399 rfl ?_
  refine Vw.ald1 aL_law_401 ?_
  refine wall_X5_keep aL_law_402 gl_RL_198 (gh_keep kh) ho (Nat.le_of_ble_eq_true rfl) ⟨by decide, (by show _ ≤ 600000; omega), (by show _ ≤ 7302250; omega)⟩ (gwP (fun z402 m402 h402 => ?_))
  obtain ⟨rfl, kh⟩ := h402
  obtain ⟨fs, ho⟩ := kh.o
  refine Vw.ild4 aL_law_405 ?_
  refine Vw.icmp_ne aL_law_407 (tgt := 459) (by decide) (fun c407 => absurd c407 (fun q => q rfl)) (fun c407 => ?_)
  refine Vw.ald1 aL_law_410 ?_
  refine wall_X5_crash aL_law_411 gl_RL_101 (ga_crash kh (by decide)) ho (Nat.le_of_ble_eq_true rfl) ⟨by decide, (by show _ ≤ 600000; omega), (by show _ ≤ 7302250; omega)⟩ (gwA (fun a z411 m411 hz411 h411 => ?_))
  obtain ⟨ha0, s1, kh⟩ := h411
  obtain ⟨fs, ho⟩ := kh.o
  have hn1 := kh.inv.num
  refine Vw.if_lt aL_law_414 (tgt := 459) (by decide) (fun c414 => by exfalso; omega) (fun c414 => ?_)
  refine Vw.ald1 aL_law_417 ?_
  refine Vw.ald1 aL_law_418 ?_
  refine Vw.iconst aL_law_419 (by decide) ?_
  refine wall_X5_count aL_law_420 gl_RL_13 (gt_count4 kh) ho (Nat.le_of_ble_eq_true rfl) ⟨by decide, (by show _ ≤ 600000; omega), (by show _ ≤ 7302250; omega)⟩ (gwL ?_)
  refine Vw.if_ne aL_law_423 (tgt := 430) (by decide) (fun c423 => ?_) (fun c423 => ?_)
  · refine Vw.iconst aL_law_430 (by decide) ?_
    refine wall_X5_setWay aL_law_431 gl_RL_47 (gh_setWayD kh (by decide) (by omega)) ho (Nat.le_of_ble_eq_true rfl) ⟨by decide, (by show _ ≤ 600000; omega), (by show _ ≤ 7302250; omega)⟩ (gwP (fun z431 m431 h431 => ?_))
    obtain ⟨hz431, kh⟩ := h431
    refine Vw.if_lt aL_law_434 (tgt := 459) (by decide) (fun c434 => by exfalso; omega) (fun c434 => ?_)
    exact tail s1 _ _ _ _ _ kh (by omega) (by omega)
  · refine Vw.iconst aL_law_426 (by decide) ?_
    refine Vw.goto aL_law_427 (tgt := 431) (by decide) ?_
    refine wall_X5_setWay aL_law_431 gl_RL_47 (gh_setWayD kh (by decide) (by omega)) ho (Nat.le_of_ble_eq_true rfl) ⟨by decide, (by show _ ≤ 600000; omega), (by show _ ≤ 7302250; omega)⟩ (gwP (fun z431 m431 h431 => ?_))
    obtain ⟨hz431, kh⟩ := h431
    refine Vw.if_lt aL_law_434 (tgt := 459) (by decide) (fun c434 => by exfalso; omega) (fun c434 => ?_)
    exact tail s1 _ _ _ _ _ kh (by omega) (by omega)
end

