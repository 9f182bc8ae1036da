-- a page's cells, held against a number's digits; what is typed
def nib (x : Int64) (k : Int) : Int := ((x >>> ((Int32.ofInt (4 * (11 - k))).toInt64 &&& 63)) &&& 15).toInt32.toInt
def sgn (x : Int64) (k : Int) : Int := ((x >>> ((Int32.ofInt k).toInt64 &&& 63)) &&& 255).toInt32.toInt
def txr : List Int → (Int → Int)
  | [] => fun _ => 0
  | c :: t => upI (txr t) (t.length : Int) c
def tyL (x : Int64) : Nat → List Int → List Int
  | 0, t => t
  | n + 1, t => tyL x n (if sgn x (8 * n) = 0 then t else sgn x (8 * n) % 65536 :: t)
section
variable {G : GX} {Qf : QF} {m mb : Mem} {X Z t0 : Nat} {C : Int} {s c : Int → Int} {hs : Int → Int → Int} {sv ish ln : Int} {tx : Int → Int} {sz : Nat}
theorem okw_isPage {p : Int} {v : Int64} (kh : KH m X Z t0 mb C s hs c sv ish tx ln) (hp : 0 ≤ p ∧ p ≤ 5) (hv : ∀ k, 0 ≤ k → k < 12 → s (8 + 12 * p + k) = nib v k) : OkW G kL_isPage 2 [wr (some X), wi p, wl v] sz m 0 0 (PIw 1 sz m) := by
  obtain ⟨fs, ho⟩ := kh.o
  refine OkW.body [some (wr (some X)), some (wi p), some (wl v), none, none, none] rfl (Nat.le_of_ble_eq_true rfl) (by decide) ?_
  have loop : ∀ (n : Nat) (k : Int), 12 - k = n → 0 ≤ k → Vw G kL_isPage (rmM 2 0 0) (QfW G (PIw 1 sz m) 0 0) 6 [some (wr (some X)), some (wi p), some (wl v), none, some (wi 1), some (wi k)] [] sz m 0 0 := by
    intro n
    induction n with
    | zero =>
      intro k hn h0
      have e : k = 12 := by omega
      subst e
      refine Vw.ild5 aL_isPage_6 ?_
      refine Vw.bipush aL_isPage_8 (by decide) (by decide) ?_
      refine Vw.icmp_ge aL_isPage_10 (tgt := 55) (by decide) (fun c10 => ?_) (fun c10 => by exfalso; omega)
      refine Vw.ild4 aL_isPage_55 ?_
      refine Vw.zret aL_isPage_57 rfl (by first | decide | omega) (by decide) ?_
      exact ⟨rfl, rfl, rfl⟩
    | succ n ih =>
      intro k hn h0
      have q := ih (k + 1) (by omega) (by omega)
      have e := hv k h0 (by omega)
      unfold nib at e
      refine Vw.ild5 aL_isPage_6 ?_
      refine Vw.bipush aL_isPage_8 (by decide) (by decide) ?_
      refine Vw.icmp_ge aL_isPage_10 (tgt := 55) (by decide) (fun c10 => by exfalso; omega) (fun c10 => ?_)
      refine Vw.ild4 aL_isPage_13 ?_
      refine Vw.if_eq aL_isPage_15 (tgt := 46) (by decide) (fun c15 => absurd c15 (by decide)) (fun c15 => ?_)
      refine Vw.ald0 aL_isPage_18 ?_
      refine Vw.ild1 aL_isPage_19 ?_
      refine Vw.ild5 aL_isPage_20 ?_
      refine wall_X5_cell aL_isPage_22 gl_RL_19 (gt_cell kh (by omega)) ho (Nat.le_of_ble_eq_true rfl) (by decide) (gwL ?_)
      refine Vw.lld2 aL_isPage_25 ?_
      refine Vw.iconst aL_isPage_26 (by decide) ?_
      refine Vw.bipush aL_isPage_27 (by decide) (by decide) ?_
      refine Vw.ild5 aL_isPage_29 ?_
      refine Vw.isub aL_isPage_31 (by omega) ?_
      refine Vw.imul aL_isPage_32 (by omega) ?_
      refine Vw.lshr aL_isPage_33 ?_
      refine Vw.ldc2 aL_isPage_34 gq_RL_74 ?_
      refine Vw.land aL_isPage_37 ?_
      refine Vw.l2i aL_isPage_38 ?_
      refine Vw.icmp_ne aL_isPage_39 (tgt := 46) (by decide) (fun c39 => absurd c39 (fun q => q e)) (fun c39 => ?_)
      refine Vw.iconst aL_isPage_42 (by decide) ?_
      refine Vw.goto aL_isPage_43 (tgt := 47) (by decide) ?_
      refine Vw.ist4 aL_isPage_47 rfl ?_
      refine Vw.inc5 aL_isPage_49 (by omega) rfl ?_
      refine Vw.goto aL_isPage_52 (tgt := 6) (by decide) ?_
      exact q
  refine Vw.iconst aL_isPage_0 (by decide) ?_
  refine Vw.ist4 aL_isPage_1 rfl ?_
  refine Vw.iconst aL_isPage_3 (by decide) ?_
  refine Vw.ist5 aL_isPage_4 rfl ?_
  exact loop 12 0 (by decide) (by decide)
theorem gh_type {ch : Int} (k : KH m X Z t0 mb C s hs c sv ish tx ln) (hl : ln < 60) (hc : 0 ≤ ch ∧ ch < 65536) : Ok G kX5_type 0 [.inr (some X), .inl ch] sz m 0 0 (fun ret z m' => ret = some (.inl (ln + 1)) ∧ z = sz ∧ KH m' X Z t0 mb C s hs c sv ish (upI tx ln ch) (ln + 1)) := by
  obtain ⟨g, h, cg, pq, q⟩ := k
  exact okPost (ok5_type2 pq hl hc) (fun r z m' ⟨h1, h2, h3⟩ => ⟨h1, h2, g, h, cg, h3, q⟩)
theorem tyL_len {x : Int64} : ∀ (n : Nat) (t : List Int), (tyL x n t).length ≤ t.length + n
  | 0, t => Nat.le_refl _
  | n + 1, t => by
    unfold tyL
    refine Nat.le_trans (tyL_len n _) ?_
    split
    · omega
    · simp only [List.length_cons]; omega
theorem okw_types {t : List Int} {x : Int64} (kh : KH m X Z t0 mb C s hs c sv ish (txr t) (t.length : Int)) (ht : t.length + 8 ≤ 60) : OkW G kL_types 1 [wr (some X), wl x] sz m 0 0 (fun r z m' => r = some (wi 1) ∧ z = sz ∧ KH m' X Z t0 mb C s hs c sv ish (txr (tyL x 8 t)) ((tyL x 8 t).length : Int)) := by
  refine OkW.body [some (wr (some X)), some (wl x), none, none, none, none] rfl (Nat.le_of_ble_eq_true rfl) (by decide) ?_
  have loop : ∀ (n : Nat) (t : List Int) (M : Mem) (k : Int) (x5 : Option LW), k = 8 * (n : Int) - 8 → n ≤ 8 → t.length + n ≤ 60 → KH M X Z t0 mb C s hs c sv ish (txr t) (t.length : Int) → Vw G kL_types (rmM 1 0 0) (QfW G (fun r z m' => r = some (wi 1) ∧ z = sz ∧ KH m' X Z t0 mb C s hs c sv ish (txr (tyL x n t)) ((tyL x n t).length : Int)) 0 0) 6 [some (wr (some X)), some (wl x), none, some (wi 1), some (wi k), x5] [] sz M 0 0 := by
    intro n
    induction n with
    | zero =>
      intro t M k x5 hk hn hl kh
      refine Vw.ild4 aL_types_6 ?_
      refine Vw.if_lt aL_types_8 (tgt := 53) (by decide) (fun c8 => ?_) (fun c8 => by exfalso; omega)
      refine Vw.ild3 aL_types_53 ?_
      refine Vw.zret aL_types_54 rfl (by first | decide | omega) (by decide) ?_
      exact ⟨rfl, rfl, kh⟩
    | succ n ih =>
      intro t M k x5 hk hn hl kh
      obtain ⟨fs, ho⟩ := kh.o
      have ek : k = 8 * (n : Int) := by omega
      subst ek
      have h0 : t.length < 60 := by omega
      by_cases hz : sgn x (8 * n) = 0
      · have q := fun x5 => ih t M (8 * (n : Int) + -8) x5 (by omega) (by omega) (by omega) kh
        have e : tyL x (n + 1) t = tyL x n t := by
          show tyL x n _ = _
          rw [if_pos hz]
        rw [e]
        unfold sgn at hz
        refine Vw.ild4 aL_types_6 ?_
        refine Vw.if_lt aL_types_8 (tgt := 53) (by decide) (fun c8 => by exfalso; omega) (fun c8 => ?_)
        refine Vw.lld1 aL_types_11 ?_
        refine Vw.ild4 aL_types_12 ?_
        refine Vw.lshr aL_types_14 ?_
        refine Vw.ldc2 aL_types_15 gq_RL_108 ?_
        refine Vw.land aL_types_18 ?_
        refine Vw.l2i aL_types_19 ?_
        refine Vw.ist5 aL_types_20 rfl ?_
        refine Vw.ild3 aL_types_22 ?_
        refine Vw.if_eq aL_types_23 (tgt := 45) (by decide) (fun c23 => absurd c23 (by decide)) (fun c23 => ?_)
        refine Vw.ild5 aL_types_26 ?_
        refine Vw.if_eq aL_types_28 (tgt := 41) (by decide) (fun c28 => ?_) (fun c28 => absurd c28 (fun q => q hz))
        refine Vw.iconst aL_types_41 (by decide) ?_
        refine Vw.goto aL_types_42 (tgt := 46) (by decide) ?_
        refine Vw.ist3 aL_types_46 rfl ?_
        refine Vw.inc4 aL_types_47 (by omega) rfl ?_
        refine Vw.goto aL_types_50 (tgt := 6) (by decide) ?_
        exact q _
      · have e : tyL x (n + 1) t = tyL x n (sgn x (8 * n) % 65536 :: t) := by
          show tyL x n _ = _
          rw [if_neg hz]
        rw [e]
        have e2 : (((sgn x (8 * n) % 65536 :: t).length : Nat) : Int) = (t.length : Int) + 1 := by simp only [List.length_cons]; omega
        have q := fun x5 M kh => ih (sgn x (8 * n) % 65536 :: t) M (8 * (n : Int) + -8) x5 (by omega) (by omega) (by simp only [List.length_cons]; omega) kh
        rw [e2] at q
        unfold sgn at hz
        refine Vw.ild4 aL_types_6 ?_
        refine Vw.if_lt aL_types_8 (tgt := 53) (by decide) (fun c8 => by exfalso; omega) (fun c8 => ?_)
        refine Vw.lld1 aL_types_11 ?_
        refine Vw.ild4 aL_types_12 ?_
        refine Vw.lshr aL_types_14 ?_
        refine Vw.ldc2 aL_types_15 gq_RL_108 ?_
        refine Vw.land aL_types_18 ?_
        refine Vw.l2i aL_types_19 ?_
        refine Vw.ist5 aL_types_20 rfl ?_
        refine Vw.ild3 aL_types_22 ?_
        refine Vw.if_eq aL_types_23 (tgt := 45) (by decide) (fun c23 => absurd c23 (by decide)) (fun c23 => ?_)
        refine Vw.ild5 aL_types_26 ?_
        refine Vw.if_eq aL_types_28 (tgt := 41) (by decide) (fun c28 => absurd c28 (fun q => hz q)) (fun c28 => ?_)
        refine Vw.ald0 aL_types_31 ?_
        refine Vw.ild5 aL_types_32 ?_
        refine Vw.i2c aL_types_34 ?_
        refine wall_X5_type aL_types_35 gl_RL_110 (gh_type kh (by omega) (by omega)) ho (Nat.le_of_ble_eq_true rfl) (by decide) (gwP (fun z35 m35 h35 => ?_))
        obtain ⟨rfl, kh2⟩ := h35
        refine Vw.if_le aL_types_38 (tgt := 45) (by decide) (fun c38 => by exfalso; omega) (fun c38 => ?_)
        refine Vw.iconst aL_types_41 (by decide) ?_
        refine Vw.goto aL_types_42 (tgt := 46) (by decide) ?_
        refine Vw.ist3 aL_types_46 rfl ?_
        refine Vw.inc4 aL_types_47 (by omega) rfl ?_
        refine Vw.goto aL_types_50 (tgt := 6) (by decide) ?_
        exact q _ _ kh2
  refine Vw.iconst aL_types_0 (by decide) ?_
  refine Vw.ist3 aL_types_1 rfl ?_
  refine Vw.bipush aL_types_2 (by decide) (by decide) ?_
  refine Vw.ist4 aL_types_4 rfl ?_
  exact loop 8 t m 56 none (by decide) (by decide) ht kh
end

