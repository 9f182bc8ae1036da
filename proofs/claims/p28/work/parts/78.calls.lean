-- calls on an object whose state is written out
theorem ini_0 : iniS 0 = 2 := by decide
theorem ini_1 : iniS 1 = 100 := by decide
theorem ini_z {j : Int} (h : 2 ≤ j ∧ j < 164) : iniS j = 0 := by
  unfold iniS
  rw [cpy_out (by omega), upI_n (by omega), upI_n (by omega)]
  rfl
theorem ini_5 {j : Int} (h : 164 ≤ j ∧ j < 170) : iniS j = -5 := by
  unfold iniS
  rw [cpy_in (by omega)]
theorem inv_ini : Inv 0 iniS := by
  have e2 := ini_z (j := 2) (by decide)
  have e3 := ini_z (j := 3) (by decide)
  have e4 := ini_z (j := 4) (by decide)
  have e5 := ini_z (j := 5) (by decide)
  have e6 := ini_z (j := 6) (by decide)
  have e7 := ini_z (j := 7) (by decide)
  have e0 := ini_0
  have e1 := ini_1
  refine ⟨by omega, by omega, by omega, by omega, by omega, by omega, fun i i0 i1 => ?_, fun p p0 p1 => ⟨?_, ?_, ?_⟩, fun k k0 k1 => by omega, ?_, by decide⟩
  · rw [ini_z (by omega)]; decide
  · rw [ini_z (by omega), e4]; decide
  · rw [ini_z (by omega)]; exact Or.inl rfl
  · rw [ini_5 (by omega)]; exact Or.inl rfl
  · have eu : used iniS = 0 := by
      unfold used
      first | exact foldI_0 (by omega) | (rw [e2, e3]; rfl)
    omega
theorem khStart {X t0 Z : Nat} {m1 m' M : Mem} {h0 : Int → Int} {hs : Int → Int → Int} (hN : NP X m1 m') (ht : m1 t0 = iar 0 h0) (hX : t0 < X) (x : ∀ a, a < X + 157 → M a = m' a) (hZ : X + 157 ≤ Z) (hu : ∀ a, X + 157 ≤ a → a < Z → M a ≠ unk) : KH M X Z t0 M 0 iniS hs iniS 0 0 (fun _ => 0) 0 := by
  obtain ⟨n1, n2, n3, n4, n5, n6, n7⟩ := hN
  have e2 := ini_z (j := 2) (by decide)
  have e3 := ini_z (j := 3) (by decide)
  refine ⟨fun _ => none, h0X X, fun _ => none, ⟨⟨(x _ (by omega)).trans n1, (x _ (by omega)).trans n2, (x _ (by omega)).trans n3, ⟨h0, (x _ (by omega)).trans ((n7 _ hX).trans ht)⟩, ⟨n4.keep (fun a a0 a1 => x a (by omega)), fun i i0 i1 e he => by cases he⟩, ⟨n5.keep (fun a a0 a1 => x a (by omega)), fun i i0 i1 e he => by cases he⟩, fun i i0 i1 => ⟨(n6 i ⟨i0, i1⟩).keep (fun a a0 a1 => x a (by omega)), fun i i0 i1 e he => by cases he⟩, fun i i0 i1 => ⟨?_, fun j j0 j1 hj => ?_⟩, ⟨hX, hZ⟩, by decide, Or.inl rfl, by decide, by decide, fun a a0 a1 => ⟨rfl, hu a a0 a1⟩⟩, ⟨fun i i0 i1 => ?_, inv_ini⟩, fun q => absurd rfl q, fun i i0 i1 => by omega⟩, fun i i0 i1 => by omega⟩
  · show X + 24 ≤ X + 24 + 22 * i.toNat ∧ X + 24 + 22 * i.toNat + 22 ≤ X + 134
    omega
  · show X + 24 + 22 * i.toNat + 22 ≤ X + 24 + 22 * j.toNat ∨ X + 24 + 22 * j.toNat + 22 ≤ X + 24 + 22 * i.toNat
    omega
  · have : i < iniS 3 - iniS 2 := i1
    omega
def KD (G : GX) (m : Mem) (sz X : Nat) (C : Int) (LL : List (List Int)) (sv ish : Int) (tx : Int → Int) (ln : Int) : Prop := X + 157 ≤ sz ∧ ∃ (mb : Mem) (hs : Int → Int → Int) (c : Int → Int), KH m X (X + 157) G.2.2.2 mb C (rowD LL) hs c sv ish tx ln
def ckBad (s : Int → Int) (p e : Int) : Bool := (List.range (e + 1 - asSt s p e).toNat).any (fun i => decide (ofE s (asSt s p e + (i : Int)) 0 = p ∧ ofE s (asSt s p e + (i : Int)) 4 = 1))
theorem ckBad_iff {s : Int → Int} {p e : Int} : ckBad s p e = true ↔ asBad s p e := by
  unfold ckBad
  rw [List.any_eq_true]
  constructor
  · rintro ⟨i, h1, h2⟩
    have h1 := List.mem_range.mp h1
    rw [decide_eq_true_eq] at h2
    exact ⟨_, by omega, by omega, h2⟩
  · rintro ⟨j, h1, h2, h3⟩
    refine ⟨(j - asSt s p e).toNat, List.mem_range.mpr (by omega), ?_⟩
    rw [decide_eq_true_eq, Int.toNat_of_nonneg (by omega), show asSt s p e + (j - asSt s p e) = j by omega]
    exact h3
def ckAs (s : Int → Int) (p e x v : Int) : Bool := if (decide (asA s p e) || ckBad s p e) = true then decide (v = -4) else decide (asZ s Zr p e x = v)
def ckNo (s : Int → Int) (r : Int) : Bool := (List.range (s 3 - s 4).toNat).all (fun i => decide (ofE s (s 4 + (i : Int)) 0 ≠ r))
theorem ckNo_of {s : Int → Int} {r : Int} (h : ckNo s r = true) : ∀ j, s 4 ≤ j → j < s 3 → ofE s j 0 ≠ r := by
  intro j j0 j1
  unfold ckNo at h
  rw [List.all_eq_true] at h
  have q := h (j - s 4).toNat (List.mem_range.mpr (by omega))
  rw [decide_eq_true_eq, Int.toNat_of_nonneg (by omega), show s 4 + (j - s 4) = j by omega] at q
  exact q
section
variable {G : GX} {y : MK} {R : Room} {Qf : QF} {pc pc' : Nat} {L : List (Option LW)} {st : List LW} {m : Mem} {k2 n2 : Nat}
theorem gwN {Q : Nat → Mem → Prop} (kk : ∀ z m', Q z m' → Vw G y R Qf pc' L st z m' k2 n2) : ∀ (r : Option LW) (z : Nat) (m' : Mem), liftP (fun ret z m' => ret = none ∧ Q z m') r z m' → Vw G y R Qf pc' L (r.toList ++ st) z m' k2 n2 := by
  rintro r z m' ⟨q, rfl, rfl, h⟩
  exact kk z m' h
end
section
variable {G : GX} {y : MK} {R : Room} {Qf : QF} {pc pc' : Nat} {Lc : List (Option LW)} {st : List LW} {sz : Nat} {m : Mem} {k n idx X : Nat} {C : Int} {L LN : List (List Int)} {sv sv2 ish ln : Int} {tx : Int → Int}
theorem KD.of {m' mb : Mem} {z : Nat} {D : Int} {s1 c : Int → Int} {hs : Int → Int → Int} (hz : X + 157 ≤ z) (k : KH m' X (X + 157) G.2.2.2 mb D s1 hs c sv ish tx ln) (hc : ckS s1 (rowD LN) = true) : KD G m' z X D LN sv ish tx ln := ⟨hz, mb, hs, c, k.agr (ckS_agr hc)⟩
theorem cd_count {w v : Int} (kd : KD G m sz X C L sv ish tx ln) (h : At y pc (.invokevirtual idx) 3 pc') (hl : Cond.methodLink y.1.cls idx yX5_count ∈ GW) (hv : countZ (rowD L) sv ln w = v) (h8 : cws st ≤ 8) (hr : (4 + 1 ≤ R.frames ∧ 8 + (2 + 11) + 40 * 4 ≤ R.locals) ∧ k + 0 ≤ R.cells ∧ n + 0 ≤ R.slots) (kk : Vw G y R Qf pc' Lc (wi v :: st) sz m (k + 0) (n + 0)) : Vw G y R Qf pc Lc (wi w :: wr (some X) :: st) sz m k n := by
  obtain ⟨hz, mb, hs, c, kh⟩ := kd
  obtain ⟨fs, ho⟩ := kh.o
  have ok : Ok G kX5_count 4 [.inr (some X), .inl w] sz m 0 0 (PI v sz m) := by
    subst hv
    exact gt_count kh
  exact wall_X5_count h hl ok ho h8 hr (gwL kk)
theorem cd_cell {p e v : Int} (kd : KD G m sz X C L sv ish tx ln) (h : At y pc (.invokevirtual idx) 3 pc') (hl : Cond.methodLink y.1.cls idx yX5_cell ∈ GW) (hw : 0 ≤ p ∧ p ≤ 5 ∧ 0 ≤ e ∧ e ≤ 11) (hv : rowD L (8 + 12 * p + e) = v) (h8 : cws st ≤ 8) (hr : (1 + 1 ≤ R.frames ∧ 8 + (3 + 11) + 40 * 1 ≤ R.locals) ∧ k + 0 ≤ R.cells ∧ n + 0 ≤ R.slots) (kk : Vw G y R Qf pc' Lc (wi v :: st) sz m (k + 0) (n + 0)) : Vw G y R Qf pc Lc (wi e :: wi p :: wr (some X) :: st) sz m k n := by
  obtain ⟨hz, mb, hs, c, kh⟩ := kd
  obtain ⟨fs, ho⟩ := kh.o
  have ok : Ok G kX5_cell 1 [.inr (some X), .inl p, .inl e] sz m 0 0 (PI v sz m) := by
    subst hv
    exact gt_cell kh hw
  exact wall_X5_cell h hl ok ho h8 hr (gwL kk)
theorem cd_stored {p e v : Int} (kd : KD G m sz X C L sv ish tx ln) (h : At y pc (.invokevirtual idx) 3 pc') (hl : Cond.methodLink y.1.cls idx yX5_stored ∈ GW) (hw : 0 ≤ p ∧ p ≤ 5 ∧ 0 ≤ e ∧ e ≤ 11) (hv : rowD L (80 + 12 * p + e) = v) (h8 : cws st ≤ 8) (hr : (1 + 1 ≤ R.frames ∧ 8 + (3 + 11) + 40 * 1 ≤ R.locals) ∧ k + 0 ≤ R.cells ∧ n + 0 ≤ R.slots) (kk : Vw G y R Qf pc' Lc (wi v :: st) sz m (k + 0) (n + 0)) : Vw G y R Qf pc Lc (wi e :: wi p :: wr (some X) :: st) sz m k n := by
  obtain ⟨hz, mb, hs, c, kh⟩ := kd
  obtain ⟨fs, ho⟩ := kh.o
  have ok : Ok G kX5_stored 1 [.inr (some X), .inl p, .inl e] sz m 0 0 (PI v sz m) := by
    subst hv
    exact gt_stored kh hw
  exact wall_X5_stored h hl ok ho h8 hr (gwL kk)
theorem cd_page {p w v : Int} (kd : KD G m sz X C L sv ish tx ln) (h : At y pc (.invokevirtual idx) 3 pc') (hl : Cond.methodLink y.1.cls idx yX5_page ∈ GW) (hw : 0 ≤ p ∧ p ≤ 5) (hv : pageZ (rowD L) p w = v) (h8 : cws st ≤ 8) (hr : (3 + 1 ≤ R.frames ∧ 8 + (5 + 11) + 40 * 3 ≤ R.locals) ∧ k + 0 ≤ R.cells ∧ n + 0 ≤ R.slots) (kk : Vw G y R Qf pc' Lc (wi v :: st) sz m (k + 0) (n + 0)) : Vw G y R Qf pc Lc (wi w :: wi p :: wr (some X) :: st) sz m k n := by
  obtain ⟨hz, mb, hs, c, kh⟩ := kd
  obtain ⟨fs, ho⟩ := kh.o
  have ok : Ok G kX5_page 3 [.inr (some X), .inl p, .inl w] sz m 0 0 (PI v sz m) := by
    subst hv
    exact gt_page kh hw
  exact wall_X5_page h hl ok ho h8 hr (gwL kk)
theorem cd_entry {e w v : Int} (kd : KD G m sz X C L sv ish tx ln) (h : At y pc (.invokevirtual idx) 3 pc') (hl : Cond.methodLink y.1.cls idx yX5_entry ∈ GW) (hw : rowD L 2 ≤ e ∧ e ≤ rowD L 3 - 1) (hv : entryZ (rowD L) e w = v) (h8 : cws st ≤ 8) (hr : (3 + 1 ≤ R.frames ∧ 8 + (4 + 11) + 40 * 3 ≤ R.locals) ∧ k + 0 ≤ R.cells ∧ n + 0 ≤ R.slots) (kk : Vw G y R Qf pc' Lc (wi v :: st) sz m (k + 0) (n + 0)) : Vw G y R Qf pc Lc (wi w :: wi e :: wr (some X) :: st) sz m k n := by
  obtain ⟨hz, mb, hs, c, kh⟩ := kd
  obtain ⟨fs, ho⟩ := kh.o
  have ok : Ok G kX5_entry 3 [.inr (some X), .inl e, .inl w] sz m 0 0 (PI v sz m) := by
    subst hv
    exact gt_entry kh hw
  exact wall_X5_entry h hl ok ho h8 hr (gwL kk)
theorem cd_entryN {e w v : Int} (kd : KD G m sz X C L sv ish tx ln) (h : At y pc (.invokevirtual idx) 3 pc') (hl : Cond.methodLink y.1.cls idx yX5_entry ∈ GW) (hw : ¬ (rowD L 2 ≤ e ∧ e ≤ rowD L 3 - 1)) (hv : -1 = v) (h8 : cws st ≤ 8) (hr : (3 + 1 ≤ R.frames ∧ 8 + (4 + 11) + 40 * 3 ≤ R.locals) ∧ k + 0 ≤ R.cells ∧ n + 0 ≤ R.slots) (kk : Vw G y R Qf pc' Lc (wi v :: st) sz m (k + 0) (n + 0)) : Vw G y R Qf pc Lc (wi w :: wi e :: wr (some X) :: st) sz m k n := by
  obtain ⟨hz, mb, hs, c, kh⟩ := kd
  obtain ⟨fs, ho⟩ := kh.o
  have ok : Ok G kX5_entry 3 [.inr (some X), .inl e, .inl w] sz m 0 0 (PI v sz m) := by
    subst hv
    exact gt_entry1 kh hw
  exact wall_X5_entry h hl ok ho h8 hr (gwL kk)
theorem cd_best { v : Int} (kd : KD G m sz X C L sv ish tx ln) (h : At y pc (.invokevirtual idx) 3 pc') (hl : Cond.methodLink y.1.cls idx yX5_bestRenewed ∈ GW) (hv : bestZ (rowD L) = v) (h8 : cws st ≤ 8) (hr : (3 + 1 ≤ R.frames ∧ 8 + (5 + 11) + 40 * 3 ≤ R.locals) ∧ k + 0 ≤ R.cells ∧ n + 0 ≤ R.slots) (kk : Vw G y R Qf pc' Lc (wi v :: st) sz m (k + 0) (n + 0)) : Vw G y R Qf pc Lc (wr (some X) :: st) sz m k n := by
  obtain ⟨hz, mb, hs, c, kh⟩ := kd
  obtain ⟨fs, ho⟩ := kh.o
  have ok : Ok G kX5_bestRenewed 3 [.inr (some X)] sz m 0 0 (PI v sz m) := by
    subst hv
    exact gt_best kh
  exact wall_X5_bestRenewed h hl ok ho h8 hr (gwL kk)
theorem cd_undoN { v : Int} (kd : KD G m sz X C L sv ish tx ln) (h : At y pc (.invokevirtual idx) 3 pc') (hl : Cond.methodLink y.1.cls idx yX5_undo ∈ GW) (hf : sv = 0) (hv : -5 = v) (h8 : cws st ≤ 8) (hr : (3 + 1 ≤ R.frames ∧ 8 + (1 + 11) + 40 * 3 ≤ R.locals) ∧ k + 0 ≤ R.cells ∧ n + 0 ≤ R.slots) (kk : Vw G y R Qf pc' Lc (wi v :: st) sz m (k + 0) (n + 0)) : Vw G y R Qf pc Lc (wr (some X) :: st) sz m k n := by
  obtain ⟨hz, mb, hs, c, kh⟩ := kd
  obtain ⟨fs, ho⟩ := kh.o
  have ok : Ok G kX5_undo 3 [.inr (some X)] sz m 0 0 (PI v sz m) := by
    subst hv
    exact gh_undo0 kh hf
  exact wall_X5_undo h hl ok ho h8 hr (gwL kk)
theorem cd_restoreN { v : Int} (kd : KD G m sz X C L sv ish tx ln) (h : At y pc (.invokevirtual idx) 3 pc') (hl : Cond.methodLink y.1.cls idx yX5_restore ∈ GW) (hf : ish = 0) (hv : -5 = v) (h8 : cws st ≤ 8) (hr : (4 + 1 ≤ R.frames ∧ 8 + (1 + 11) + 40 * 4 ≤ R.locals) ∧ k + 0 ≤ R.cells ∧ n + 0 ≤ R.slots) (kk : Vw G y R Qf pc' Lc (wi v :: st) sz m (k + 0) (n + 0)) : Vw G y R Qf pc Lc (wr (some X) :: st) sz m k n := by
  obtain ⟨hz, mb, hs, c, kh⟩ := kd
  obtain ⟨fs, ho⟩ := kh.o
  have ok : Ok G kX5_restore 4 [.inr (some X)] sz m 0 0 (PI v sz m) := by
    subst hv
    exact gh_restore0 kh hf
  exact wall_X5_restore h hl ok ho h8 hr (gwL kk)
theorem cd_asOf {p e x v : Int} (kd : KD G m sz X C L sv ish tx ln) (h : At y pc (.invokevirtual idx) 3 pc') (hl : Cond.methodLink y.1.cls idx yX5_asOf ∈ GW) (hw : 0 ≤ p ∧ p ≤ 5 ∧ rowD L 2 ≤ e ∧ e ≤ rowD L 3 - 1 ∧ 0 ≤ x ∧ x ≤ 11) (hv : ckAs (rowD L) p e x v = true) (h8 : cws st ≤ 8) (hr : (5 + 1 ≤ R.frames ∧ 8 + (5 + 11) + 40 * 5 ≤ R.locals) ∧ k + 1 ≤ R.cells ∧ n + 12 ≤ R.slots) (kk : ∀ (z : Nat) (m' : Mem), KD G m' z X C L sv ish tx ln → Vw G y R Qf pc' Lc (wi v :: st) z m' (k + 1) (n + 12)) : Vw G y R Qf pc Lc (wi x :: wi e :: wi p :: wr (some X) :: st) sz m k n := by
  obtain ⟨hz, mb, hs, c, kh⟩ := kd
  obtain ⟨fs, ho⟩ := kh.o
  have ok : Ok G kX5_asOf 5 [.inr (some X), .inl p, .inl e, .inl x] sz m 1 12 (fun ret z m' => ret = some (.inl v) ∧ KD G m' z X C L sv ish tx ln) := by
    obtain ⟨g, hh, cg, pq, q⟩ := kh
    refine okPost (ok5_asOf2 (b := (rowD L, g)) pq hz hw) (fun r z m' hd => ?_)
    unfold ckAs at hv
    by_cases hb : asA (rowD L) p e ∨ asBad (rowD L) p e
    · rw [if_pos (by rw [Bool.or_eq_true, decide_eq_true_eq, ckBad_iff]; exact hb), decide_eq_true_eq] at hv
      subst hv
      obtain ⟨e1, e2, e3⟩ := KH.kept (hd.1 hb) q
      exact ⟨e1, by omega, mb, hs, c, e3⟩
    · rw [if_neg (by rw [Bool.or_eq_true, decide_eq_true_eq, ckBad_iff]; exact hb), decide_eq_true_eq] at hv
      subst hv
      obtain ⟨e1, e2, e3⟩ := KH.kept (hd.2 hb) q
      exact ⟨e1, by omega, mb, hs, c, e3⟩
  exact wall_X5_asOf h hl ok ho h8 hr (gwP kk)
theorem cd_flushN { v : Int} (kd : KD G m sz X C L sv ish tx ln) (h : At y pc (.invokevirtual idx) 3 pc') (hl : Cond.methodLink y.1.cls idx yX5_flush ∈ GW) (hf : rowD L 3 = rowD L 4) (hv : -5 = v) (h8 : cws st ≤ 8) (hr : (4 + 1 ≤ R.frames ∧ 8 + (1 + 11) + 40 * 4 ≤ R.locals) ∧ k + 0 ≤ R.cells ∧ n + 0 ≤ R.slots) (kk : ∀ (z : Nat) (m' : Mem), KD G m' z X C L sv ish tx ln → Vw G y R Qf pc' Lc (wi v :: st) z m' (k + 0) (n + 0)) : Vw G y R Qf pc Lc (wr (some X) :: st) sz m k n := by
  obtain ⟨hz, mb, hs, c, kh⟩ := kd
  obtain ⟨fs, ho⟩ := kh.o
  have ok : Ok G kX5_flush 4 [.inr (some X)] sz m 0 0 (fun ret z m' => ret = some (.inl v) ∧ KD G m' z X C L sv ish tx ln) := by
    subst hv
    obtain ⟨g, hh, cg, pq, q⟩ := kh
    refine okPost (ok5_flush1 (b := (rowD L, g)) pq hf) (fun r z m' hd => ?_)
    obtain ⟨e1, e2, e3⟩ := KH.undone hd q
    exact ⟨e1, by omega, mb, hs, c, e3⟩
  exact wall_X5_flush h hl ok ho h8 hr (gwP kk)
theorem cd_trimN { v : Int} (kd : KD G m sz X C L sv ish tx ln) (h : At y pc (.invokevirtual idx) 3 pc') (hl : Cond.methodLink y.1.cls idx yX5_trim ∈ GW) (hf : droppable (rowD L) 0 = 0) (hv : -5 = v) (h8 : cws st ≤ 8) (hr : (4 + 1 ≤ R.frames ∧ 8 + (2 + 11) + 40 * 4 ≤ R.locals) ∧ k + 0 ≤ R.cells ∧ n + 0 ≤ R.slots) (kk : ∀ (z : Nat) (m' : Mem), KD G m' z X C L sv ish tx ln → Vw G y R Qf pc' Lc (wi v :: st) z m' (k + 0) (n + 0)) : Vw G y R Qf pc Lc (wr (some X) :: st) sz m k n := by
  obtain ⟨hz, mb, hs, c, kh⟩ := kd
  obtain ⟨fs, ho⟩ := kh.o
  have ok : Ok G kX5_trim 4 [.inr (some X)] sz m 0 0 (fun ret z m' => ret = some (.inl v) ∧ KD G m' z X C L sv ish tx ln) := by
    subst hv
    obtain ⟨g, hh, cg, pq, q⟩ := kh
    refine okPost (ok5_trim1 (b := (rowD L, g)) pq hf) (fun r z m' hd => ?_)
    obtain ⟨e1, e2, e3⟩ := KH.undone hd q
    exact ⟨e1, by omega, mb, hs, c, e3⟩
  exact wall_X5_trim h hl ok ho h8 hr (gwP kk)
theorem cd_setRoomN {w v : Int} (kd : KD G m sz X C L sv ish tx ln) (h : At y pc (.invokevirtual idx) 3 pc') (hl : Cond.methodLink y.1.cls idx yX5_setRoom ∈ GW) (hw : 30 ≤ w ∧ w ≤ 300) (hf : w < usedW (rowD L) (droppable (rowD L) w) ∨ rowD L 1 = w) (hv : (if w < usedW (rowD L) (droppable (rowD L) w) then -4 else -5) = v) (h8 : cws st ≤ 8) (hr : (5 + 1 ≤ R.frames ∧ 8 + (2 + 11) + 40 * 5 ≤ R.locals) ∧ k + 0 ≤ R.cells ∧ n + 0 ≤ R.slots) (kk : ∀ (z : Nat) (m' : Mem), KD G m' z X C L sv ish tx ln → Vw G y R Qf pc' Lc (wi v :: st) z m' (k + 0) (n + 0)) : Vw G y R Qf pc Lc (wi w :: wr (some X) :: st) sz m k n := by
  obtain ⟨hz, mb, hs, c, kh⟩ := kd
  obtain ⟨fs, ho⟩ := kh.o
  have ok : Ok G kX5_setRoom 5 [.inr (some X), .inl w] sz m 0 0 (fun ret z m' => ret = some (.inl v) ∧ KD G m' z X C L sv ish tx ln) := by
    subst hv
    obtain ⟨g, hh, cg, pq, q⟩ := kh
    refine okPost (ok5_setRoom2 (b := (rowD L, g)) pq hw rfl hf) (fun r z m' hd => ?_)
    obtain ⟨e1, e2, e3⟩ := KH.undone hd q
    exact ⟨e1, by omega, mb, hs, c, e3⟩
  exact wall_X5_setRoom h hl ok ho h8 hr (gwP kk)
theorem cd_storeN {w v : Int} (kd : KD G m sz X C L sv ish tx ln) (h : At y pc (.invokevirtual idx) 3 pc') (hl : Cond.methodLink y.1.cls idx yX5_store ∈ GW) (j : Int) (hw : 0 ≤ w ∧ w ≤ 5) (hf : rowD L 4 ≤ j ∧ j < rowD L 3 ∧ ofE (rowD L) j 0 = w) (hv : -4 = v) (h8 : cws st ≤ 8) (hr : (5 + 1 ≤ R.frames ∧ 8 + (2 + 11) + 40 * 5 ≤ R.locals) ∧ k + 0 ≤ R.cells ∧ n + 0 ≤ R.slots) (kk : ∀ (z : Nat) (m' : Mem), KD G m' z X C L sv ish tx ln → Vw G y R Qf pc' Lc (wi v :: st) z m' (k + 0) (n + 0)) : Vw G y R Qf pc Lc (wi w :: wr (some X) :: st) sz m k n := by
  obtain ⟨hz, mb, hs, c, kh⟩ := kd
  obtain ⟨fs, ho⟩ := kh.o
  have ok : Ok G kX5_store 5 [.inr (some X), .inl w] sz m 0 0 (fun ret z m' => ret = some (.inl v) ∧ KD G m' z X C L sv ish tx ln) := by
    subst hv
    obtain ⟨g, hh, cg, pq, q⟩ := kh
    refine okPost (ok5_store2 (b := (rowD L, g)) pq hw hf) (fun r z m' hd => ?_)
    obtain ⟨e1, e2, e3⟩ := KH.undone hd q
    exact ⟨e1, by omega, mb, hs, c, e3⟩
  exact wall_X5_store h hl ok ho h8 hr (gwP kk)
theorem cd_damageN {w v : Int} (kd : KD G m sz X C L sv ish tx ln) (h : At y pc (.invokevirtual idx) 3 pc') (hl : Cond.methodLink y.1.cls idx yX5_damage ∈ GW) (hw : rowD L 2 ≤ w ∧ w ≤ rowD L 3 - 1) (hf : ofE (rowD L) w 4 = 1) (hv : -5 = v) (h8 : cws st ≤ 8) (hr : (4 + 1 ≤ R.frames ∧ 8 + (2 + 11) + 40 * 4 ≤ R.locals) ∧ k + 1 ≤ R.cells ∧ n + 8 ≤ R.slots) (kk : ∀ (z : Nat) (m' : Mem), KD G m' z X C L sv ish tx ln → Vw G y R Qf pc' Lc (wi v :: st) z m' (k + 1) (n + 8)) : Vw G y R Qf pc Lc (wi w :: wr (some X) :: st) sz m k n := by
  obtain ⟨hz, mb, hs, c, kh⟩ := kd
  obtain ⟨fs, ho⟩ := kh.o
  have ok : Ok G kX5_damage 4 [.inr (some X), .inl w] sz m 1 8 (fun ret z m' => ret = some (.inl v) ∧ KD G m' z X C L sv ish tx ln) := by
    subst hv
    obtain ⟨g, hh, cg, pq, q⟩ := kh
    refine okPost (ok5_damage2 (b := (rowD L, g)) pq hw hf) (fun r z m' hd => ?_)
    obtain ⟨e1, e2, e3⟩ := KH.undone hd q
    exact ⟨e1, by omega, mb, hs, c, e3⟩
  exact wall_X5_damage h hl ok ho h8 hr (gwP kk)
theorem cd_turnN {p w v : Int} (kd : KD G m sz X C L sv ish tx ln) (h : At y pc (.invokevirtual idx) 3 pc') (hl : Cond.methodLink y.1.cls idx yX5_turn ∈ GW) (hw : 0 ≤ p ∧ p ≤ 5) (h2 : 1 ≤ w ∧ w ≤ 11) (hC : C + 1 ≤ 20000) (hf : ¬ fits1 (rowD L) (doMk (rowD L) Zr (mkF p 3 0 12 w Zr))) (hv : -3 = v) (h8 : cws st ≤ 8) (hr : (6 + 1 ≤ R.frames ∧ 8 + (3 + 11) + 40 * 6 ≤ R.locals) ∧ k + 3 ≤ R.cells ∧ n + 28 ≤ R.slots) (kk : ∀ (z : Nat) (m' : Mem), KD G m' z X C L sv ish tx ln → Vw G y R Qf pc' Lc (wi v :: st) z m' (k + 3) (n + 28)) : Vw G y R Qf pc Lc (wi w :: wi p :: wr (some X) :: st) sz m k n := by
  obtain ⟨hz, mb, hs, c, kh⟩ := kd
  obtain ⟨fs, ho⟩ := kh.o
  have ok : Ok G kX5_turn 6 [.inr (some X), .inl p, .inl w] sz m 3 28 (fun ret z m' => ret = some (.inl v) ∧ KD G m' z X C L sv ish tx ln) := by
    subst hv
    obtain ⟨g, hh, cg, pq, q⟩ := kh
    refine okPost (ok5_turn3 (b := (rowD L, g)) pq hC rfl hz hw h2) (fun r z m' hd => ?_)
    obtain ⟨e1, e2, e3⟩ := KH.undone (hd.2 hf) q
    exact ⟨e1, by omega, mb, hs, c, e3⟩
  exact wall_X5_turn h hl ok ho h8 hr (gwP kk)
theorem cd_renewN {p v : Int} (kd : KD G m sz X C L sv ish tx ln) (h : At y pc (.invokevirtual idx) 3 pc') (hl : Cond.methodLink y.1.cls idx yX5_renew ∈ GW) (hw : 0 ≤ p ∧ p ≤ 5) (hC : C + 1 ≤ 20000) (hf : ¬ fits1 (rowD L) (doMk (rowD L) Zr (mkF p 0 0 12 0 Zr))) (hv : -3 = v) (h8 : cws st ≤ 8) (hr : (6 + 1 ≤ R.frames ∧ 8 + (3 + 11) + 40 * 6 ≤ R.locals) ∧ k + 3 ≤ R.cells ∧ n + 28 ≤ R.slots) (kk : ∀ (z : Nat) (m' : Mem), KD G m' z X C L sv ish tx ln → Vw G y R Qf pc' Lc (wi v :: st) z m' (k + 3) (n + 28)) : Vw G y R Qf pc Lc (wi p :: wr (some X) :: st) sz m k n := by
  obtain ⟨hz, mb, hs, c, kh⟩ := kd
  obtain ⟨fs, ho⟩ := kh.o
  have ok : Ok G kX5_renew 6 [.inr (some X), .inl p] sz m 3 28 (fun ret z m' => ret = some (.inl v) ∧ KD G m' z X C L sv ish tx ln) := by
    subst hv
    obtain ⟨g, hh, cg, pq, q⟩ := kh
    refine okPost (ok5_renew2 (b := (rowD L, g)) pq hC rfl hz hw) (fun r z m' hd => ?_)
    obtain ⟨e1, e2, e3⟩ := KH.undone (hd.2 hf) q
    exact ⟨e1, by omega, mb, hs, c, e3⟩
  exact wall_X5_renew h hl ok ho h8 hr (gwP kk)
theorem cd_flush { v : Int} (kd : KD G m sz X C L sv ish tx ln) (h : At y pc (.invokevirtual idx) 3 pc') (hl : Cond.methodLink y.1.cls idx yX5_flush ∈ GW) (hV : recV sv = sv2) (hf : rowD L 3 ≠ rowD L 4) (hv : rowD L 3 - rowD L 4 = v) (hc : ckS (upI (rowD L) 4 (rowD L 3)) (rowD LN) = true) (h8 : cws st ≤ 8) (hr : (4 + 1 ≤ R.frames ∧ 8 + (1 + 11) + 40 * 4 ≤ R.locals) ∧ k + 0 ≤ R.cells ∧ n + 0 ≤ R.slots) (kk : ∀ (z : Nat) (m' : Mem), KD G m' z X C LN sv2 ish tx ln → Vw G y R Qf pc' Lc (wi v :: st) z m' (k + 0) (n + 0)) : Vw G y R Qf pc Lc (wr (some X) :: st) sz m k n := by
  obtain ⟨hz, mb, hs, c, kh⟩ := kd
  obtain ⟨fs, ho⟩ := kh.o
  have ok : Ok G kX5_flush 4 [.inr (some X)] sz m 0 0 (fun ret z m' => ret = some (.inl v) ∧ KD G m' z X C LN sv2 ish tx ln) := by
    subst hv hV
    obtain ⟨g, hh, cg, pq, q⟩ := kh
    refine okPost (ok5_flush2 (b := (rowD L, g)) pq hf) (fun r z m' hd => ?_)
    obtain ⟨e1, e2, e3⟩ := KH.done hd pq.sv_b q
    exact ⟨e1, KD.of (by omega) e3 hc⟩
  exact wall_X5_flush h hl ok ho h8 hr (gwP kk)
theorem cd_trim { v : Int} (kd : KD G m sz X C L sv ish tx ln) (h : At y pc (.invokevirtual idx) 3 pc') (hl : Cond.methodLink y.1.cls idx yX5_trim ∈ GW) (hV : recV sv = sv2) (hf : droppable (rowD L) 0 ≠ 0) (hv : droppable (rowD L) 0 = v) (hc : ckS (dropsF (rowD L) (droppable (rowD L) 0)) (rowD LN) = true) (h8 : cws st ≤ 8) (hr : (4 + 1 ≤ R.frames ∧ 8 + (2 + 11) + 40 * 4 ≤ R.locals) ∧ k + 0 ≤ R.cells ∧ n + 0 ≤ R.slots) (kk : ∀ (z : Nat) (m' : Mem), KD G m' z X C LN sv2 ish tx ln → Vw G y R Qf pc' Lc (wi v :: st) z m' (k + 0) (n + 0)) : Vw G y R Qf pc Lc (wr (some X) :: st) sz m k n := by
  obtain ⟨hz, mb, hs, c, kh⟩ := kd
  obtain ⟨fs, ho⟩ := kh.o
  have ok : Ok G kX5_trim 4 [.inr (some X)] sz m 0 0 (fun ret z m' => ret = some (.inl v) ∧ KD G m' z X C LN sv2 ish tx ln) := by
    subst hv hV
    obtain ⟨g, hh, cg, pq, q⟩ := kh
    refine okPost (ok5_trim2 (b := (rowD L, g)) pq hf) (fun r z m' hd => ?_)
    obtain ⟨e1, e2, e3⟩ := KH.done hd pq.sv_b q
    exact ⟨e1, KD.of (by omega) e3 hc⟩
  exact wall_X5_trim h hl ok ho h8 hr (gwP kk)
theorem cd_setWay {w v : Int} (kd : KD G m sz X C L sv ish tx ln) (h : At y pc (.invokevirtual idx) 3 pc') (hl : Cond.methodLink y.1.cls idx yX5_setWay ∈ GW) (hV : recV sv = sv2) (hw : 0 ≤ w ∧ w ≤ 2) (hf : rowD L 0 ≠ w) (hv : rowD L 0 = v) (hc : ckS (upI (rowD L) 0 w) (rowD LN) = true) (h8 : cws st ≤ 8) (hr : (4 + 1 ≤ R.frames ∧ 8 + (2 + 11) + 40 * 4 ≤ R.locals) ∧ k + 0 ≤ R.cells ∧ n + 0 ≤ R.slots) (kk : ∀ (z : Nat) (m' : Mem), KD G m' z X C LN sv2 ish tx ln → Vw G y R Qf pc' Lc (wi v :: st) z m' (k + 0) (n + 0)) : Vw G y R Qf pc Lc (wi w :: wr (some X) :: st) sz m k n := by
  obtain ⟨hz, mb, hs, c, kh⟩ := kd
  obtain ⟨fs, ho⟩ := kh.o
  have ok : Ok G kX5_setWay 4 [.inr (some X), .inl w] sz m 0 0 (fun ret z m' => ret = some (.inl v) ∧ KD G m' z X C LN sv2 ish tx ln) := by
    subst hv hV
    obtain ⟨g, hh, cg, pq, q⟩ := kh
    refine okPost (ok5_setWay3 (b := (rowD L, g)) pq hw hf) (fun r z m' hd => ?_)
    obtain ⟨e1, e2, e3⟩ := KH.done hd pq.sv_b q
    exact ⟨e1, KD.of (by omega) e3 hc⟩
  exact wall_X5_setWay h hl ok ho h8 hr (gwP kk)
theorem cd_setRoom {w v : Int} (kd : KD G m sz X C L sv ish tx ln) (h : At y pc (.invokevirtual idx) 3 pc') (hl : Cond.methodLink y.1.cls idx yX5_setRoom ∈ GW) (hV : recV sv = sv2) (hw : 30 ≤ w ∧ w ≤ 300) (hf : usedW (rowD L) (droppable (rowD L) w) ≤ w) (hf2 : rowD L 1 ≠ w) (hv : rowD L 1 = v) (hc : ckS (upI (dropsF (rowD L) (droppable (rowD L) w)) 1 w) (rowD LN) = true) (h8 : cws st ≤ 8) (hr : (5 + 1 ≤ R.frames ∧ 8 + (2 + 11) + 40 * 5 ≤ R.locals) ∧ k + 0 ≤ R.cells ∧ n + 0 ≤ R.slots) (kk : ∀ (z : Nat) (m' : Mem), KD G m' z X C LN sv2 ish tx ln → Vw G y R Qf pc' Lc (wi v :: st) z m' (k + 0) (n + 0)) : Vw G y R Qf pc Lc (wi w :: wr (some X) :: st) sz m k n := by
  obtain ⟨hz, mb, hs, c, kh⟩ := kd
  obtain ⟨fs, ho⟩ := kh.o
  have ok : Ok G kX5_setRoom 5 [.inr (some X), .inl w] sz m 0 0 (fun ret z m' => ret = some (.inl v) ∧ KD G m' z X C LN sv2 ish tx ln) := by
    subst hv hV
    obtain ⟨g, hh, cg, pq, q⟩ := kh
    refine okPost (ok5_setRoom3 (b := (rowD L, g)) pq hw hf hf2) (fun r z m' hd => ?_)
    obtain ⟨e1, e2, e3⟩ := KH.done hd pq.sv_b q
    exact ⟨e1, KD.of (by omega) e3 hc⟩
  exact wall_X5_setRoom h hl ok ho h8 hr (gwP kk)
theorem cd_store {w v : Int} (kd : KD G m sz X C L sv ish tx ln) (h : At y pc (.invokevirtual idx) 3 pc') (hl : Cond.methodLink y.1.cls idx yX5_store ∈ GW) (hV : recV sv = sv2) (hw : 0 ≤ w ∧ w ≤ 5) (hf : ckNo (rowD L) w = true) (hv : neededMany (rowD L) - neededMany (storeF (rowD L) w) = v) (hc : ckS (storeF (rowD L) w) (rowD LN) = true) (h8 : cws st ≤ 8) (hr : (5 + 1 ≤ R.frames ∧ 8 + (2 + 11) + 40 * 5 ≤ R.locals) ∧ k + 0 ≤ R.cells ∧ n + 0 ≤ R.slots) (kk : ∀ (z : Nat) (m' : Mem), KD G m' z X C LN sv2 ish tx ln → Vw G y R Qf pc' Lc (wi v :: st) z m' (k + 0) (n + 0)) : Vw G y R Qf pc Lc (wi w :: wr (some X) :: st) sz m k n := by
  obtain ⟨hz, mb, hs, c, kh⟩ := kd
  obtain ⟨fs, ho⟩ := kh.o
  have ok : Ok G kX5_store 5 [.inr (some X), .inl w] sz m 0 0 (fun ret z m' => ret = some (.inl v) ∧ KD G m' z X C LN sv2 ish tx ln) := by
    subst hv hV
    obtain ⟨g, hh, cg, pq, q⟩ := kh
    refine okPost (ok5_store3 (b := (rowD L, g)) pq hw (ckNo_of hf)) (fun r z m' hd => ?_)
    obtain ⟨e1, e2, e3⟩ := KH.done hd pq.sv_b q
    exact ⟨e1, KD.of (by omega) e3 hc⟩
  exact wall_X5_store h hl ok ho h8 hr (gwP kk)
theorem cd_damage {w v : Int} (kd : KD G m sz X C L sv ish tx ln) (h : At y pc (.invokevirtual idx) 3 pc') (hl : Cond.methodLink y.1.cls idx yX5_damage ∈ GW) (hV : recV sv = sv2) (hw : rowD L 2 ≤ w ∧ w ≤ rowD L 3 - 1) (hf : ofE (rowD L) w 4 ≠ 1) (hv : dmgZ (upI (rowD L) (170 + 17 * (w - rowD L 2) + 4) 1) = v) (hc : ckS (upI (rowD L) (170 + 17 * (w - rowD L 2) + 4) 1) (rowD LN) = true) (h8 : cws st ≤ 8) (hr : (4 + 1 ≤ R.frames ∧ 8 + (2 + 11) + 40 * 4 ≤ R.locals) ∧ k + 1 ≤ R.cells ∧ n + 8 ≤ R.slots) (kk : ∀ (z : Nat) (m' : Mem), KD G m' z X C LN sv2 ish tx ln → Vw G y R Qf pc' Lc (wi v :: st) z m' (k + 1) (n + 8)) : Vw G y R Qf pc Lc (wi w :: wr (some X) :: st) sz m k n := by
  obtain ⟨hz, mb, hs, c, kh⟩ := kd
  obtain ⟨fs, ho⟩ := kh.o
  have ok : Ok G kX5_damage 4 [.inr (some X), .inl w] sz m 1 8 (fun ret z m' => ret = some (.inl v) ∧ KD G m' z X C LN sv2 ish tx ln) := by
    subst hv hV
    obtain ⟨g, hh, cg, pq, q⟩ := kh
    refine okPost (ok5_damage3 (b := (rowD L, g)) pq hz hw hf) (fun r z m' hd => ?_)
    obtain ⟨e1, e2, e3⟩ := KH.done hd pq.sv_b q
    exact ⟨e1, KD.of (by omega) e3 hc⟩
  exact wall_X5_damage h hl ok ho h8 hr (gwP kk)
theorem cd_crash { v : Int} (kd : KD G m sz X C L sv ish tx ln) (h : At y pc (.invokevirtual idx) 3 pc') (hl : Cond.methodLink y.1.cls idx yX5_crash ∈ GW) (hV : recV sv = sv2) (hC : C + 1 ≤ 20000) (hv : rowD L 3 - rowD L 4 = v) (hc : ckS (crashF (rowD L) Zr Zr) (rowD LN) = true) (h8 : cws st ≤ 8) (hr : (5 + 1 ≤ R.frames ∧ 8 + (1 + 11) + 40 * 5 ≤ R.locals) ∧ k + 0 ≤ R.cells ∧ n + 0 ≤ R.slots) (kk : ∀ (z : Nat) (m' : Mem), KD G m' z X (C + 1) LN sv2 ish tx ln → Vw G y R Qf pc' Lc (wi v :: st) z m' (k + 0) (n + 0)) : Vw G y R Qf pc Lc (wr (some X) :: st) sz m k n := by
  obtain ⟨hz, mb, hs, c, kh⟩ := kd
  obtain ⟨fs, ho⟩ := kh.o
  have ok : Ok G kX5_crash 5 [.inr (some X)] sz m 0 0 (fun ret z m' => ret = some (.inl v) ∧ KD G m' z X (C + 1) LN sv2 ish tx ln) := by
    subst hv hV
    obtain ⟨g, hh, cg, pq, q⟩ := kh
    refine okPost (ok5_crash (b := (rowD L, g)) Zr Zr pq hC) (fun r z m' hd => ?_)
    obtain ⟨e1, e2, e3⟩ := KH.done hd pq.sv_b q
    exact ⟨e1, KD.of (by omega) e3 hc⟩
  exact wall_X5_crash h hl ok ho h8 hr (gwP kk)
theorem cd_fill {p a e w v : Int} (kd : KD G m sz X C L sv ish tx ln) (h : At y pc (.invokevirtual idx) 3 pc') (hl : Cond.methodLink y.1.cls idx yX5_fill ∈ GW) (hV : recV sv = sv2) (hw : 0 ≤ p ∧ p ≤ 5 ∧ 0 ≤ a ∧ a ≤ 11 ∧ 0 ≤ e ∧ e ≤ 11) (h2 : a ≤ e ∧ 0 ≤ w ∧ w ≤ 9) (hC : C + 1 ≤ 20000) (hf : fits1 (rowD L) (doMk (rowD L) Zr (mkF p 1 a (e - a + 1) w Zr))) (hv : doMk (rowD L) Zr (mkF p 1 a (e - a + 1) w Zr) 1 = v) (hc : ckS (doS (rowD L) Zr (mkF p 1 a (e - a + 1) w Zr)) (rowD LN) = true) (h8 : cws st ≤ 8) (hr : (6 + 1 ≤ R.frames ∧ 8 + (5 + 11) + 40 * 6 ≤ R.locals) ∧ k + 3 ≤ R.cells ∧ n + 28 ≤ R.slots) (kk : ∀ (z : Nat) (m' : Mem), KD G m' z X (C + 1) LN sv2 ish tx ln → Vw G y R Qf pc' Lc (wi v :: st) z m' (k + 3) (n + 28)) : Vw G y R Qf pc Lc (wi w :: wi e :: wi a :: wi p :: wr (some X) :: st) sz m k n := by
  obtain ⟨hz, mb, hs, c, kh⟩ := kd
  obtain ⟨fs, ho⟩ := kh.o
  have ok : Ok G kX5_fill 6 [.inr (some X), .inl p, .inl a, .inl e, .inl w] sz m 3 28 (fun ret z m' => ret = some (.inl v) ∧ KD G m' z X (C + 1) LN sv2 ish tx ln) := by
    subst hv hV
    obtain ⟨g, hh, cg, pq, q⟩ := kh
    refine okPost (ok5_fill3 (b := (rowD L, g)) pq hC rfl hz hw h2) (fun r z m' hd => ?_)
    obtain ⟨e1, e2, e3⟩ := KH.done (hd.1 hf) pq.sv_b q
    exact ⟨e1, KD.of (by omega) e3 hc⟩
  exact wall_X5_fill h hl ok ho h8 hr (gwP kk)
theorem cd_add {p a e w v : Int} (kd : KD G m sz X C L sv ish tx ln) (h : At y pc (.invokevirtual idx) 3 pc') (hl : Cond.methodLink y.1.cls idx yX5_add ∈ GW) (hV : recV sv = sv2) (hw : 0 ≤ p ∧ p ≤ 5 ∧ 0 ≤ a ∧ a ≤ 11 ∧ 0 ≤ e ∧ e ≤ 11) (h2 : a ≤ e ∧ 1 ≤ w ∧ w ≤ 9) (hC : C + 1 ≤ 20000) (hf : fits1 (rowD L) (doMk (rowD L) Zr (mkF p 2 a (e - a + 1) w Zr))) (hv : doMk (rowD L) Zr (mkF p 2 a (e - a + 1) w Zr) 1 = v) (hc : ckS (doS (rowD L) Zr (mkF p 2 a (e - a + 1) w Zr)) (rowD LN) = true) (h8 : cws st ≤ 8) (hr : (6 + 1 ≤ R.frames ∧ 8 + (5 + 11) + 40 * 6 ≤ R.locals) ∧ k + 3 ≤ R.cells ∧ n + 28 ≤ R.slots) (kk : ∀ (z : Nat) (m' : Mem), KD G m' z X (C + 1) LN sv2 ish tx ln → Vw G y R Qf pc' Lc (wi v :: st) z m' (k + 3) (n + 28)) : Vw G y R Qf pc Lc (wi w :: wi e :: wi a :: wi p :: wr (some X) :: st) sz m k n := by
  obtain ⟨hz, mb, hs, c, kh⟩ := kd
  obtain ⟨fs, ho⟩ := kh.o
  have ok : Ok G kX5_add 6 [.inr (some X), .inl p, .inl a, .inl e, .inl w] sz m 3 28 (fun ret z m' => ret = some (.inl v) ∧ KD G m' z X (C + 1) LN sv2 ish tx ln) := by
    subst hv hV
    obtain ⟨g, hh, cg, pq, q⟩ := kh
    refine okPost (ok5_add3 (b := (rowD L, g)) pq hC rfl hz hw h2) (fun r z m' hd => ?_)
    obtain ⟨e1, e2, e3⟩ := KH.done (hd.1 hf) pq.sv_b q
    exact ⟨e1, KD.of (by omega) e3 hc⟩
  exact wall_X5_add h hl ok ho h8 hr (gwP kk)
theorem cd_turn {p w v : Int} (kd : KD G m sz X C L sv ish tx ln) (h : At y pc (.invokevirtual idx) 3 pc') (hl : Cond.methodLink y.1.cls idx yX5_turn ∈ GW) (hV : recV sv = sv2) (hw : 0 ≤ p ∧ p ≤ 5) (h2 : 1 ≤ w ∧ w ≤ 11) (hC : C + 1 ≤ 20000) (hf : fits1 (rowD L) (doMk (rowD L) Zr (mkF p 3 0 12 w Zr))) (hv : doMk (rowD L) Zr (mkF p 3 0 12 w Zr) 1 = v) (hc : ckS (doS (rowD L) Zr (mkF p 3 0 12 w Zr)) (rowD LN) = true) (h8 : cws st ≤ 8) (hr : (6 + 1 ≤ R.frames ∧ 8 + (3 + 11) + 40 * 6 ≤ R.locals) ∧ k + 3 ≤ R.cells ∧ n + 28 ≤ R.slots) (kk : ∀ (z : Nat) (m' : Mem), KD G m' z X (C + 1) LN sv2 ish tx ln → Vw G y R Qf pc' Lc (wi v :: st) z m' (k + 3) (n + 28)) : Vw G y R Qf pc Lc (wi w :: wi p :: wr (some X) :: st) sz m k n := by
  obtain ⟨hz, mb, hs, c, kh⟩ := kd
  obtain ⟨fs, ho⟩ := kh.o
  have ok : Ok G kX5_turn 6 [.inr (some X), .inl p, .inl w] sz m 3 28 (fun ret z m' => ret = some (.inl v) ∧ KD G m' z X (C + 1) LN sv2 ish tx ln) := by
    subst hv hV
    obtain ⟨g, hh, cg, pq, q⟩ := kh
    refine okPost (ok5_turn3 (b := (rowD L, g)) pq hC rfl hz hw h2) (fun r z m' hd => ?_)
    obtain ⟨e1, e2, e3⟩ := KH.done (hd.1 hf) pq.sv_b q
    exact ⟨e1, KD.of (by omega) e3 hc⟩
  exact wall_X5_turn h hl ok ho h8 hr (gwP kk)
theorem cd_renew {p v : Int} (kd : KD G m sz X C L sv ish tx ln) (h : At y pc (.invokevirtual idx) 3 pc') (hl : Cond.methodLink y.1.cls idx yX5_renew ∈ GW) (hV : recV sv = sv2) (hw : 0 ≤ p ∧ p ≤ 5) (hC : C + 1 ≤ 20000) (hf : fits1 (rowD L) (doMk (rowD L) Zr (mkF p 0 0 12 0 Zr))) (hv : rowD L 3 = v) (hc : ckS (doS (rowD L) Zr (mkF p 0 0 12 0 Zr)) (rowD LN) = true) (h8 : cws st ≤ 8) (hr : (6 + 1 ≤ R.frames ∧ 8 + (3 + 11) + 40 * 6 ≤ R.locals) ∧ k + 3 ≤ R.cells ∧ n + 28 ≤ R.slots) (kk : ∀ (z : Nat) (m' : Mem), KD G m' z X (C + 1) LN sv2 ish tx ln → Vw G y R Qf pc' Lc (wi v :: st) z m' (k + 3) (n + 28)) : Vw G y R Qf pc Lc (wi p :: wr (some X) :: st) sz m k n := by
  obtain ⟨hz, mb, hs, c, kh⟩ := kd
  obtain ⟨fs, ho⟩ := kh.o
  have ok : Ok G kX5_renew 6 [.inr (some X), .inl p] sz m 3 28 (fun ret z m' => ret = some (.inl v) ∧ KD G m' z X (C + 1) LN sv2 ish tx ln) := by
    subst hv hV
    obtain ⟨g, hh, cg, pq, q⟩ := kh
    refine okPost (ok5_renew2 (b := (rowD L, g)) pq hC rfl hz hw) (fun r z m' hd => ?_)
    obtain ⟨e1, e2, e3⟩ := KH.done (hd.1 hf) pq.sv_b q
    exact ⟨e1, KD.of (by omega) e3 hc⟩
  exact wall_X5_renew h hl ok ho h8 hr (gwP kk)
theorem cd_clear { v : Int} (kd : KD G m sz X C L sv ish tx ln) (h : At y pc (.invokevirtual idx) 3 pc') (hl : Cond.methodLink y.1.cls idx yX5_clearText ∈ GW) (hv : ln = v) (h8 : cws st ≤ 8) (hr : (0 + 1 ≤ R.frames ∧ 8 + (2 + 11) + 40 * 0 ≤ R.locals) ∧ k + 0 ≤ R.cells ∧ n + 0 ≤ R.slots) (kk : ∀ (z : Nat) (m' : Mem), KD G m' z X C L sv ish tx 0 → Vw G y R Qf pc' Lc (wi v :: st) z m' (k + 0) (n + 0)) : Vw G y R Qf pc Lc (wr (some X) :: st) sz m k n := by
  obtain ⟨hz, mb, hs, c, kh⟩ := kd
  obtain ⟨fs, ho⟩ := kh.o
  have ok : Ok G kX5_clearText 0 [.inr (some X)] sz m 0 0 (fun ret z m' => ret = some (.inl v) ∧ KD G m' z X C L sv ish tx 0) := by
    subst hv
    obtain ⟨g, hh, cg, pq, q⟩ := kh
    refine okPost (ok5_clearText pq) (fun r z m' hd => ?_)
    obtain ⟨e1, e2, e3⟩ := hd
    exact ⟨e1, by omega, mb, hs, c, g, hh, cg, e3, q⟩
  exact wall_X5_clearText h hl ok ho h8 hr (gwP kk)
theorem cd_typeN {w v : Int} (kd : KD G m sz X C L sv ish tx ln) (h : At y pc (.invokevirtual idx) 3 pc') (hl : Cond.methodLink y.1.cls idx yX5_type ∈ GW) (hf : ln = 60) (hv : -3 = v) (h8 : cws st ≤ 8) (hr : (0 + 1 ≤ R.frames ∧ 8 + (2 + 11) + 40 * 0 ≤ R.locals) ∧ k + 0 ≤ R.cells ∧ n + 0 ≤ R.slots) (kk : Vw G y R Qf pc' Lc (wi v :: st) sz m (k + 0) (n + 0)) : Vw G y R Qf pc Lc (wi w :: wr (some X) :: st) sz m k n := by
  obtain ⟨hz, mb, hs, c, kh⟩ := kd
  obtain ⟨fs, ho⟩ := kh.o
  have ok : Ok G kX5_type 0 [.inr (some X), .inl w] sz m 0 0 (PI v sz m) := by
    subst hv
    obtain ⟨g, hh, cg, pq, q⟩ := kh
    exact ok5_type1 pq hf
  exact wall_X5_type h hl ok ho h8 hr (gwL kk)
theorem cd_type {w v : Int} (kd : KD G m sz X C L sv ish tx ln) (h : At y pc (.invokevirtual idx) 3 pc') (hl : Cond.methodLink y.1.cls idx yX5_type ∈ GW) (hf : ln < 60) (hw : 0 ≤ w ∧ w < 65536) (hv : ln + 1 = v) (h8 : cws st ≤ 8) (hr : (0 + 1 ≤ R.frames ∧ 8 + (2 + 11) + 40 * 0 ≤ R.locals) ∧ k + 0 ≤ R.cells ∧ n + 0 ≤ R.slots) (kk : ∀ (z : Nat) (m' : Mem), KD G m' z X C L sv ish (upI tx ln w) (ln + 1) → Vw G y R Qf pc' Lc (wi v :: st) z m' (k + 0) (n + 0)) : Vw G y R Qf pc Lc (wi w :: wr (some X) :: st) sz m k n := by
  obtain ⟨hz, mb, hs, c, kh⟩ := kd
  obtain ⟨fs, ho⟩ := kh.o
  have ok : Ok G kX5_type 0 [.inr (some X), .inl w] sz m 0 0 (fun ret z m' => ret = some (.inl v) ∧ KD G m' z X C L sv ish (upI tx ln w) (ln + 1)) := by
    subst hv
    refine okPost (gh_type kh hf hw) (fun r z m' hd => ?_)
    obtain ⟨e1, e2, e3⟩ := hd
    exact ⟨e1, by omega, mb, hs, c, e3⟩
  exact wall_X5_type h hl ok ho h8 hr (gwP kk)
theorem cd_ordersF { v : Int} (kd : KD G m sz X C L sv ish tx ln) (h : At y pc (.invokevirtual idx) 3 pc') (hl : Cond.methodLink y.1.cls idx yX5_readOrders ∈ GW) (hC : C + 21 ≤ 20000) (hf : (txtP tx ln 100 Zr 0).1 = 0) (hv : -100 - (txtP tx ln 100 Zr 0).2.1 = v) (h8 : cws st ≤ 8) (hr : (6 + 1 ≤ R.frames ∧ 8 + (5 + 11) + 40 * 6 ≤ R.locals) ∧ k + 107 ≤ R.cells ∧ n + 1118 ≤ R.slots) (kk : ∀ (z : Nat) (m' : Mem), KD G m' z X C L sv ish tx ln → Vw G y R Qf pc' Lc (wi v :: st) z m' (k + 107) (n + 1118)) : Vw G y R Qf pc Lc (wr (some X) :: st) sz m k n := by
  obtain ⟨hz, mb, hs, c, kh⟩ := kd
  obtain ⟨fs, ho⟩ := kh.o
  have ok : Ok G kX5_readOrders 6 [.inr (some X)] sz m 107 1118 (fun ret z m' => ret = some (.inl v) ∧ KD G m' z X C L sv ish tx ln) := by
    subst hv
    obtain ⟨g, hh, cg, pq, q⟩ := kh
    refine okPost (ok5_orders (b := (rowD L, g)) pq hC rfl hz) (fun r z m' hd => ?_)
    obtain ⟨e1, e2, e3⟩ := KH.kept (hd.1 hf) q
    exact ⟨e1, by omega, mb, hs, c, e3⟩
  exact wall_X5_readOrders h hl ok ho h8 hr (gwP kk)
theorem cd_ordersN { v : Int} (kd : KD G m sz X C L sv ish tx ln) (h : At y pc (.invokevirtual idx) 3 pc') (hl : Cond.methodLink y.1.cls idx yX5_readOrders ∈ GW) (hC : C + 21 ≤ 20000) (hf : (txtP tx ln 100 Zr 0).1 = 1) (h2 : (ordsP tx ln 100 (rowD L) 0).isNone = true) (hv : -3 = v) (h8 : cws st ≤ 8) (hr : (6 + 1 ≤ R.frames ∧ 8 + (5 + 11) + 40 * 6 ≤ R.locals) ∧ k + 107 ≤ R.cells ∧ n + 1118 ≤ R.slots) (kk : ∀ (z : Nat) (m' : Mem), KD G m' z X (C + 21) L sv ish tx ln → Vw G y R Qf pc' Lc (wi v :: st) z m' (k + 107) (n + 1118)) : Vw G y R Qf pc Lc (wr (some X) :: st) sz m k n := by
  obtain ⟨hz, mb, hs, c, kh⟩ := kd
  obtain ⟨fs, ho⟩ := kh.o
  have ok : Ok G kX5_readOrders 6 [.inr (some X)] sz m 107 1118 (fun ret z m' => ret = some (.inl v) ∧ KD G m' z X (C + 21) L sv ish tx ln) := by
    subst hv
    obtain ⟨g, hh, cg, pq, q⟩ := kh
    refine okPost (ok5_orders (b := (rowD L, g)) pq hC rfl hz) (fun r z m' hd => ?_)
    have hd2 := hd.2 hf
    unfold ordersR at hd2
    cases ho2 : ordsP tx ln 100 (rowD L) 0 with
    | some t => rw [ho2] at h2; cases h2
    | none =>
      simp only [ho2] at hd2
      obtain ⟨e1, e2, e3⟩ := KH.undone hd2 q
      exact ⟨e1, by omega, mb, hs, c, e3⟩
  exact wall_X5_readOrders h hl ok ho h8 hr (gwP kk)
theorem cd_orders { v : Int} (kd : KD G m sz X C L sv ish tx ln) (h : At y pc (.invokevirtual idx) 3 pc') (hl : Cond.methodLink y.1.cls idx yX5_readOrders ∈ GW) (hV : recV sv = sv2) (hC : C + 21 ≤ 20000) (hf : (txtP tx ln 100 Zr 0).1 = 1) (h2 : (match ordsP tx ln 100 (rowD L) 0 with | none => false | some t => decide (t 5 - rowD L 5 = v) && ckS t (rowD LN)) = true) (h8 : cws st ≤ 8) (hr : (6 + 1 ≤ R.frames ∧ 8 + (5 + 11) + 40 * 6 ≤ R.locals) ∧ k + 107 ≤ R.cells ∧ n + 1118 ≤ R.slots) (kk : ∀ (z : Nat) (m' : Mem), KD G m' z X (C + 21) LN sv2 ish tx ln → Vw G y R Qf pc' Lc (wi v :: st) z m' (k + 107) (n + 1118)) : Vw G y R Qf pc Lc (wr (some X) :: st) sz m k n := by
  obtain ⟨hz, mb, hs, c, kh⟩ := kd
  obtain ⟨fs, ho⟩ := kh.o
  have ok : Ok G kX5_readOrders 6 [.inr (some X)] sz m 107 1118 (fun ret z m' => ret = some (.inl v) ∧ KD G m' z X (C + 21) LN sv2 ish tx ln) := by
    subst hV
    obtain ⟨g, hh, cg, pq, q⟩ := kh
    refine okPost (ok5_orders (b := (rowD L, g)) pq hC rfl hz) (fun r z m' hd => ?_)
    have hd2 := hd.2 hf
    unfold ordersR at hd2
    cases ho2 : ordsP tx ln 100 (rowD L) 0 with
    | none => rw [ho2] at h2; cases h2
    | some t =>
      simp only [ho2] at hd2 h2
      rw [Bool.and_eq_true, decide_eq_true_eq] at h2
      obtain ⟨e1, e2, e3⟩ := KH.done hd2.2 pq.sv_b q
      rw [← h2.1]
      exact ⟨e1, KD.of (by omega) e3 h2.2⟩
  exact wall_X5_readOrders h hl ok ho h8 hr (gwP kk)
theorem cd_isPage {p : Int} {v : Int64} (kd : KD G m sz X C L sv ish tx ln) (h : At y pc (.invokestatic idx) 3 pc') (hl : Cond.methodLink y.1.cls idx yL_isPage ∈ GW) (hp : 0 ≤ p ∧ p ≤ 5) (hv : (List.range 12).all (fun k => decide (rowD L (8 + 12 * p + (k : Int)) = nib v (k : Int))) = true) (h8 : cws st ≤ 8) (hr : (2 + 1 ≤ R.frames ∧ 8 + (6 + 11) + 40 * 2 ≤ R.locals) ∧ k + 0 ≤ R.cells ∧ n + 0 ≤ R.slots) (kk : Vw G y R Qf pc' Lc (wi 1 :: st) sz m k n) : Vw G y R Qf pc Lc (wl v :: wi p :: wr (some X) :: st) sz m k n := by
  obtain ⟨hz, mb, hs, c, kh⟩ := kd
  refine wall_L_isPage h hl (okw_isPage kh hp (fun i i0 i1 => ?_)) h8 hr (gwI kk)
  have q := List.all_eq_true.mp hv i.toNat (List.mem_range.mpr (by omega))
  rw [decide_eq_true_eq, Int.toNat_of_nonneg i0] at q
  exact q
theorem cd_refused (kd : KD G m sz X C L sv ish tx ln) (h : At y pc (.invokestatic idx) 3 pc') (hl : Cond.methodLink y.1.cls idx yL_refused ∈ GW) (h8 : cws st ≤ 8) (hr : (8 + 1 ≤ R.frames ∧ 8 + (4 + 11) + 40 * 8 ≤ R.locals) ∧ k + 120 ≤ R.cells ∧ n + 1000 ≤ R.slots) (kk : ∀ (z : Nat) (m' : Mem), KD G m' z X C L sv ish tx ln → Vw G y R Qf pc' Lc (wi 1 :: st) z m' (k + 120) (n + 1000)) : Vw G y R Qf pc Lc (wr (some X) :: st) sz m k n := by
  obtain ⟨hz, mb, hs, c, kh⟩ := kd
  exact wall_L_refused h hl (okw_refused kh) h8 hr (gwQ (fun z m' hd => kk z m' ⟨by omega, mb, hs, c, hd.2⟩))
theorem cd_types {t t2 : List Int} {x : Int64} (kd : KD G m sz X C L sv ish (txr t) (t.length : Int)) (h : At y pc (.invokestatic idx) 3 pc') (hl : Cond.methodLink y.1.cls idx yL_types ∈ GW) (ht : t.length + 8 ≤ 60) (hv : tyL x 8 t = t2) (h8 : cws st ≤ 8) (hr : (1 + 1 ≤ R.frames ∧ 8 + (6 + 11) + 40 * 1 ≤ R.locals) ∧ k + 0 ≤ R.cells ∧ n + 0 ≤ R.slots) (kk : ∀ (z : Nat) (m' : Mem), KD G m' z X C L sv ish (txr t2) (t2.length : Int) → Vw G y R Qf pc' Lc (wi 1 :: st) z m' k n) : Vw G y R Qf pc Lc (wl x :: wr (some X) :: st) sz m k n := by
  obtain ⟨hz, mb, hs, c, kh⟩ := kd
  subst hv
  exact wall_L_types h hl (okw_types kh ht) h8 hr (gwQ (fun z m' hd => kk z m' ⟨by omega, mb, hs, c, hd.2⟩))
end
