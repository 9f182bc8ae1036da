-- what an act does, whichever: it fails and all is as it was, or it is recorded
def actP (X Z t0 : Nat) (mb : Mem) (C : Int) (s : Int → Int) (hs : Int → Int → Int) (c : Int → Int) (sv ish : Int) (tx : Int → Int) (ln : Int) (sz : Nat) : PO := fun ret z m' => sz ≤ z ∧ ∃ a : Int, ret = some (.inl a) ∧ ((a < 0 ∧ KH m' X Z t0 mb (C + 1) s hs c sv ish tx ln) ∨ (0 ≤ a ∧ ∃ s1, KH m' X Z t0 mb (C + 1) s1 (recH hs sv s) c (recV sv) ish tx ln))
theorem doMk_1 {s cl w : Int → Int} (h : 0 ≤ w 1) : 0 ≤ doMk s cl w 1 := by
  have hp : ∀ (page : Int) (c v : Int → Int), picF page c v 1 = 0 := fun page c v => by rw [picF_lo (by decide)]; rfl
  unfold doMk
  by_cases h0 : w 1 = 0
  · rw [if_pos h0]
    unfold renMk
    rw [hp]
    decide
  · rw [if_neg h0]
    unfold chMk
    by_cases h1 : chIs s cl w
    · rw [if_pos h1, hp]
      decide
    · rw [if_neg h1]
      exact h
section
variable {G : GX} {m mb : Mem} {X Z t0 : Nat} {C : Int} {s c : Int → Int} {hs : Int → Int → Int} {sv ish ln : Int} {tx : Int → Int} {sz : Nat}
theorem actP.un {h : Int → Nat × BS} {cg : Int → Option Nat} {a : Int} {r : Option AV} {z : Nat} {m' : Mem} (hd : undone X Z t0 mb C s h (c, cg) sv ish tx ln a sz r z m') (q : ∀ i, 0 ≤ i → i < sv → (h i).2.1 = hs i) (hC : C + 1 ≤ 20000) (ha : a < 0) : actP X Z t0 mb C s hs c sv ish tx ln sz r z m' := by
  obtain ⟨h1, h2, h3⟩ := KH.undone hd q
  exact ⟨h2, a, h1, Or.inl ⟨ha, h3.mono ⟨by omega, hC⟩⟩⟩
theorem actP.dn {D : Int} {s1 : Int → Int} {h : Int → Nat × BS} {cg : Int → Option Nat} {a : Int} {r : Option AV} {z : Nat} {m' : Mem} (hd : done X Z t0 mb D s1 s h (c, cg) sv ish tx ln a sz r z m') (hv : 0 ≤ sv ∧ sv ≤ 4) (q : ∀ i, 0 ≤ i → i < sv → (h i).2.1 = hs i) (hC : D ≤ C + 1 ∧ C + 1 ≤ 20000) (ha : 0 ≤ a) : actP X Z t0 mb C s hs c sv ish tx ln sz r z m' := by
  obtain ⟨h1, h2, h3⟩ := KH.done hd hv q
  exact ⟨h2, a, h1, Or.inr ⟨ha, s1, h3.mono hC⟩⟩
theorem actP.ac {w : Int → Int} {h : Int → Nat × BS} {cg : Int → Option Nat} {r : Option AV} {z : Nat} {m' : Mem} (hd : acted X Z t0 mb C s w h (c, cg) sv ish tx ln sz r z m') (hv : 0 ≤ sv ∧ sv ≤ 4) (q : ∀ i, 0 ≤ i → i < sv → (h i).2.1 = hs i) (hC : C + 1 ≤ 20000) (hw : 0 ≤ w 1) : actP X Z t0 mb C s hs c sv ish tx ln sz r z m' := by
  by_cases hf : fits1 s (doMk s Zr w)
  · exact actP.dn (hd.1 hf) hv q ⟨Int.le_refl _, hC⟩ (doMk_1 hw)
  · exact actP.un (hd.2 hf) q hC (by decide)
theorem ga_flush (k : KH m X Z t0 mb C s hs c sv ish tx ln) (hC : C + 1 ≤ 20000) : Ok G kX5_flush 4 [.inr (some X)] sz m 0 0 (actP X Z t0 mb C s hs c sv ish tx ln sz) := by
  have hn := k.inv.num
  obtain ⟨g, h, cg, p, q⟩ := k
  by_cases hf : s 3 = s 4
  · exact okPost (ok5_flush1 p hf) (fun r z m' hd => actP.un hd q hC (by decide))
  · exact okPost (ok5_flush2 p hf) (fun r z m' hd => actP.dn hd p.sv_b q ⟨by omega, hC⟩ (by show 0 ≤ s 3 - s 4; omega))
theorem ga_setWay {w : Int} (k : KH m X Z t0 mb C s hs c sv ish tx ln) (hC : C + 1 ≤ 20000) (hw : 0 ≤ w ∧ w ≤ 2) : Ok G kX5_setWay 4 [.inr (some X), .inl w] sz m 0 0 (actP X Z t0 mb C s hs c sv ish tx ln sz) := by
  have hn := k.inv.num
  obtain ⟨g, h, cg, p, q⟩ := k
  by_cases hf : s 0 = w
  · exact okPost (ok5_setWay2 p hw hf) (fun r z m' hd => actP.un hd q hC (by decide))
  · exact okPost (ok5_setWay3 p hw hf) (fun r z m' hd => actP.dn hd p.sv_b q ⟨by omega, hC⟩ (by show 0 ≤ s 0; omega))
theorem ga_trim (k : KH m X Z t0 mb C s hs c sv ish tx ln) (hC : C + 1 ≤ 20000) : Ok G kX5_trim 4 [.inr (some X)] sz m 0 0 (actP X Z t0 mb C s hs c sv ish tx ln sz) := by
  have hb := droppable_b (most := 0) k.inv.N
  obtain ⟨g, h, cg, p, q⟩ := k
  by_cases hf : droppable s 0 = 0
  · exact okPost (ok5_trim1 p hf) (fun r z m' hd => actP.un hd q hC (by decide))
  · exact okPost (ok5_trim2 p hf) (fun r z m' hd => actP.dn hd p.sv_b q ⟨by omega, hC⟩ (by show 0 ≤ droppable s 0; omega))
theorem ga_crash (k : KH m X Z t0 mb C s hs c sv ish tx ln) (hC : C + 1 ≤ 20000) : Ok G kX5_crash 5 [.inr (some X)] sz m 0 0 (fun ret z m' => sz ≤ z ∧ ∃ a : Int, ret = some (.inl a) ∧ 0 ≤ a ∧ ∃ s1, KH m' X Z t0 mb (C + 1) s1 (recH hs sv s) c (recV sv) ish tx ln) := by
  have hn := k.inv.num
  obtain ⟨g, h, cg, p, q⟩ := k
  refine okPost (ok5_crash Zr Zr p hC) (fun r z m' hd => ?_)
  obtain ⟨h1, h2, h3⟩ := KH.done hd p.sv_b q
  exact ⟨h2, _, h1, by show 0 ≤ s 3 - s 4; omega, _, h3⟩
theorem ga_setRoom {w : Int} (k : KH m X Z t0 mb C s hs c sv ish tx ln) (hC : C + 1 ≤ 20000) (hw : 30 ≤ w ∧ w ≤ 300) : Ok G kX5_setRoom 5 [.inr (some X), .inl w] sz m 0 0 (actP X Z t0 mb C s hs c sv ish tx ln sz) := by
  have hn := k.inv.num
  obtain ⟨g, h, cg, p, q⟩ := k
  by_cases hf : w < usedW s (droppable s w) ∨ s 1 = w
  · refine okPost (ok5_setRoom2 p hw rfl hf) (fun r z m' hd => actP.un hd q hC ?_)
    split <;> decide
  · exact okPost (ok5_setRoom3 p hw (by show usedW s (droppable s w) ≤ w; omega) (by show s 1 ≠ w; omega)) (fun r z m' hd => actP.dn hd p.sv_b q ⟨by omega, hC⟩ (by show 0 ≤ s 1; omega))
theorem ga_store {w : Int} (k : KH m X Z t0 mb C s hs c sv ish tx ln) (hC : C + 1 ≤ 20000) (hw : 0 ≤ w ∧ w ≤ 5) : Ok G kX5_store 5 [.inr (some X), .inl w] sz m 0 0 (actP X Z t0 mb C s hs c sv ish tx ln sz) := by
  have hI := k.inv
  obtain ⟨g, h, cg, p, q⟩ := k
  by_cases hf : ∃ j, s 4 ≤ j ∧ j < s 3 ∧ ofE s j 0 = w
  · obtain ⟨j, hj⟩ := hf
    exact okPost (ok5_store2 p hw hj) (fun r z m' hd => actP.un hd q hC (by decide))
  · have hj : ∀ j, s 4 ≤ j → j < s 3 → ofE s j 0 ≠ w := fun j j0 j1 e => hf ⟨j, j0, j1, e⟩
    have hb := needed_store hI (p := w) ⟨hw.1, by omega⟩ hj
    exact okPost (ok5_store3 p hw hj) (fun r z m' hd => actP.dn hd p.sv_b q ⟨by omega, hC⟩ (by show 0 ≤ neededMany s - neededMany (storeF s w); omega))
theorem ga_damage {w : Int} (k : KH m X Z t0 mb C s hs c sv ish tx ln) (hC : C + 1 ≤ 20000) (hsz : Z ≤ sz) (hw : s 2 ≤ w ∧ w ≤ s 3 - 1) : Ok G kX5_damage 4 [.inr (some X), .inl w] sz m 1 8 (actP X Z t0 mb C s hs c sv ish tx ln sz) := by
  obtain ⟨g, h, cg, p, q⟩ := k
  by_cases hf : ofE s w 4 = 1
  · exact okPost (ok5_damage2 p hw hf) (fun r z m' hd => actP.un hd q hC (by decide))
  · exact okPost (ok5_damage3 p hsz hw hf) (fun r z m' hd => actP.dn hd p.sv_b q ⟨by omega, hC⟩ dmgZ_b)
theorem mkF_1 {page kind fr many value : Int} {mk : Int → Int} : mkF page kind fr many value mk 1 = kind := by
  rw [mkF_at (by decide)]
  rfl
theorem ga_fill {p a e v : Int} (k : KH m X Z t0 mb C s hs c sv ish tx ln) (hC : C + 1 ≤ 20000) (hG : G.2.2.2 = t0) (hsz : Z ≤ sz) (hw : 0 ≤ p ∧ p ≤ 5 ∧ 0 ≤ a ∧ a ≤ 11 ∧ 0 ≤ e ∧ e ≤ 11) (h2 : a ≤ e ∧ 0 ≤ v ∧ v ≤ 9) : Ok G kX5_fill 6 [.inr (some X), .inl p, .inl a, .inl e, .inl v] sz m 3 28 (actP X Z t0 mb C s hs c sv ish tx ln sz) := by
  obtain ⟨g, h, cg, pq, q⟩ := k
  exact okPost (ok5_fill3 pq hC hG hsz hw h2) (fun r z m' hd => actP.ac hd pq.sv_b q hC (by rw [mkF_1]; decide))
theorem ga_add {p a e v : Int} (k : KH m X Z t0 mb C s hs c sv ish tx ln) (hC : C + 1 ≤ 20000) (hG : G.2.2.2 = t0) (hsz : Z ≤ sz) (hw : 0 ≤ p ∧ p ≤ 5 ∧ 0 ≤ a ∧ a ≤ 11 ∧ 0 ≤ e ∧ e ≤ 11) (h2 : a ≤ e ∧ 1 ≤ v ∧ v ≤ 9) : Ok G kX5_add 6 [.inr (some X), .inl p, .inl a, .inl e, .inl v] sz m 3 28 (actP X Z t0 mb C s hs c sv ish tx ln sz) := by
  obtain ⟨g, h, cg, pq, q⟩ := k
  exact okPost (ok5_add3 pq hC hG hsz hw h2) (fun r z m' hd => actP.ac hd pq.sv_b q hC (by rw [mkF_1]; decide))
theorem ga_turn {p v : Int} (k : KH m X Z t0 mb C s hs c sv ish tx ln) (hC : C + 1 ≤ 20000) (hG : G.2.2.2 = t0) (hsz : Z ≤ sz) (hw : 0 ≤ p ∧ p ≤ 5) (h2 : 1 ≤ v ∧ v ≤ 11) : Ok G kX5_turn 6 [.inr (some X), .inl p, .inl v] sz m 3 28 (actP X Z t0 mb C s hs c sv ish tx ln sz) := by
  obtain ⟨g, h, cg, pq, q⟩ := k
  exact okPost (ok5_turn3 pq hC hG hsz hw h2) (fun r z m' hd => actP.ac hd pq.sv_b q hC (by rw [mkF_1]; decide))
theorem ga_renew {p : Int} (k : KH m X Z t0 mb C s hs c sv ish tx ln) (hC : C + 1 ≤ 20000) (hG : G.2.2.2 = t0) (hsz : Z ≤ sz) (hw : 0 ≤ p ∧ p ≤ 5) : Ok G kX5_renew 6 [.inr (some X), .inl p] sz m 3 28 (actP X Z t0 mb C s hs c sv ish tx ln sz) := by
  have hn := k.inv.num
  obtain ⟨g, h, cg, pq, q⟩ := k
  refine okPost (ok5_renew2 pq hC hG hsz hw) (fun r z m' hd => ?_)
  by_cases hf : fits1 s (doMk s Zr (mkF p 0 0 12 0 Zr))
  · exact actP.dn (hd.1 hf) pq.sv_b q ⟨Int.le_refl _, hC⟩ (by show 0 ≤ s 3; omega)
  · exact actP.un (hd.2 hf) q hC (by decide)
-- what is told
theorem gt_count {w : Int} (k : KH m X Z t0 mb C s hs c sv ish tx ln) : Ok G kX5_count 4 [.inr (some X), .inl w] sz m 0 0 (PI (countZ s sv ln w) sz m) := by
  obtain ⟨g, h, cg, p, q⟩ := k
  exact ok5_count (b := (s, g)) p
theorem gt_cell {p e : Int} (k : KH m X Z t0 mb C s hs c sv ish tx ln) (hw : 0 ≤ p ∧ p ≤ 5 ∧ 0 ≤ e ∧ e ≤ 11) : Ok G kX5_cell 1 [.inr (some X), .inl p, .inl e] sz m 0 0 (PI (s (8 + 12 * p + e)) sz m) := by
  obtain ⟨g, h, cg, pq, q⟩ := k
  exact ok5_cell2 (b := (s, g)) pq hw
theorem gt_stored {p e : Int} (k : KH m X Z t0 mb C s hs c sv ish tx ln) (hw : 0 ≤ p ∧ p ≤ 5 ∧ 0 ≤ e ∧ e ≤ 11) : Ok G kX5_stored 1 [.inr (some X), .inl p, .inl e] sz m 0 0 (PI (s (80 + 12 * p + e)) sz m) := by
  obtain ⟨g, h, cg, pq, q⟩ := k
  exact ok5_stored2 (b := (s, g)) pq hw
theorem gt_page {r w : Int} (k : KH m X Z t0 mb C s hs c sv ish tx ln) (hw : 0 ≤ r ∧ r ≤ 5) : Ok G kX5_page 3 [.inr (some X), .inl r, .inl w] sz m 0 0 (PI (pageZ s r w) sz m) := by
  obtain ⟨g, h, cg, pq, q⟩ := k
  exact ok5_page2 (b := (s, g)) pq hw
theorem gt_entry {r w : Int} (k : KH m X Z t0 mb C s hs c sv ish tx ln) (hw : s 2 ≤ r ∧ r ≤ s 3 - 1) : Ok G kX5_entry 3 [.inr (some X), .inl r, .inl w] sz m 0 0 (PI (entryZ s r w) sz m) := by
  obtain ⟨g, h, cg, pq, q⟩ := k
  exact ok5_entry2 (b := (s, g)) pq hw
theorem gt_entry1 {r w : Int} (k : KH m X Z t0 mb C s hs c sv ish tx ln) (hw : ¬ (s 2 ≤ r ∧ r ≤ s 3 - 1)) : Ok G kX5_entry 3 [.inr (some X), .inl r, .inl w] sz m 0 0 (PI (-1) sz m) := by
  obtain ⟨g, h, cg, pq, q⟩ := k
  exact ok5_entry1 pq hw
theorem gt_asOf1 {r e v : Int} (k : KH m X Z t0 mb C s hs c sv ish tx ln) (hw : ¬ (0 ≤ r ∧ r ≤ 5 ∧ s 2 ≤ e ∧ e ≤ s 3 - 1 ∧ 0 ≤ v ∧ v ≤ 11)) : Ok G kX5_asOf 5 [.inr (some X), .inl r, .inl e, .inl v] sz m 1 12 (PI (-1) sz m) := by
  obtain ⟨g, h, cg, pq, q⟩ := k
  exact ok5_asOf1 pq hw
theorem gt_damage1 {r : Int} (k : KH m X Z t0 mb C s hs c sv ish tx ln) (hw : ¬ (s 2 ≤ r ∧ r ≤ s 3 - 1)) : Ok G kX5_damage 4 [.inr (some X), .inl r] sz m 1 8 (PI (-1) sz m) := by
  obtain ⟨g, h, cg, pq, q⟩ := k
  exact ok5_damage1 pq hw
theorem gt_best (k : KH m X Z t0 mb C s hs c sv ish tx ln) : Ok G kX5_bestRenewed 3 [.inr (some X)] sz m 0 0 (PI (bestZ s) sz m) := by
  obtain ⟨g, h, cg, pq, q⟩ := k
  exact ok5_best (b := (s, g)) pq
-- acts that say why not: as it was, and recorded nowhere
theorem gu_setWay (k : KH m X Z t0 mb C s hs c sv ish tx ln) (hw : 0 ≤ s 0 ∧ s 0 ≤ 2) : Ok G kX5_setWay 4 [.inr (some X), .inl (s 0)] sz m 0 0 (fun ret z m' => ret = some (.inl (-5)) ∧ sz ≤ z ∧ KH m' X Z t0 mb C s hs c sv ish tx ln) := by
  obtain ⟨g, h, cg, pq, q⟩ := k
  exact okPost (ok5_setWay2 pq hw rfl) (fun r z m' hd => KH.undone hd q)
theorem gu_setRoom (k : KH m X Z t0 mb C s hs c sv ish tx ln) : Ok G kX5_setRoom 5 [.inr (some X), .inl (s 1)] sz m 0 0 (fun ret z m' => ret = some (.inl (-5)) ∧ sz ≤ z ∧ KH m' X Z t0 mb C s hs c sv ish tx ln) := by
  have hI := k.inv
  have hn := hI.num
  have hr := hI.room
  obtain ⟨g, h, cg, pq, q⟩ := k
  have hu : ¬ s 1 < usedW s (droppable s (s 1)) := by
    have hd := droppable_b (most := s 1) hI.N
    have h0 : droppable s (s 1) = 0 := by
      unfold droppable drpF
      rw [if_neg (by omega)]
    rw [h0]
    unfold usedW
    rw [foldI_0 (by decide)]
    omega
  exact okPost (ok5_setRoom2 pq ⟨by show 30 ≤ s 1; omega, by show s 1 ≤ 300; omega⟩ (z := -5) (by show -5 = if s 1 < usedW s (droppable s (s 1)) then (-4 : Int) else -5; rw [if_neg hu]) (Or.inr rfl)) (fun r z m' hd => KH.undone hd q)
-- history
theorem gh_undo (k : KH m X Z t0 mb C s hs c sv ish tx ln) (hf : 1 ≤ sv) : Ok G kX5_undo 3 [.inr (some X)] sz m 0 0 (fun ret z m' => ret = some (.inl (sv - 1)) ∧ z = sz ∧ KH m' X Z t0 mb C (hs (sv - 1)) hs c (sv - 1) ish tx ln) := by
  obtain ⟨g, h, cg, pq, q⟩ := k
  refine okPost (ok5_undo2 pq hf) (fun r z m' hd => ?_)
  obtain ⟨h1, h2, g2, h3⟩ := hd
  rw [q (sv - 1) (by omega) (by omega)] at h3
  exact ⟨h1, h2, g2, h, cg, h3, fun i i0 i1 => q i i0 (by omega)⟩
theorem gh_undo0 (k : KH m X Z t0 mb C s hs c sv ish tx ln) (hf : sv = 0) : Ok G kX5_undo 3 [.inr (some X)] sz m 0 0 (PI (-5) sz m) := by
  obtain ⟨g, h, cg, pq, q⟩ := k
  exact ok5_undo1 pq hf
theorem gh_keep (k : KH m X Z t0 mb C s hs c sv ish tx ln) : Ok G kX5_keep 3 [.inr (some X)] sz m 0 0 (fun ret z m' => ret = some (.inl (s 3)) ∧ z = sz ∧ KH m' X Z t0 mb C s hs s sv 1 tx ln) := by
  obtain ⟨g, h, cg, pq, q⟩ := k
  refine okPost (ok5_keep pq) (fun r z m' hd => ?_)
  obtain ⟨h1, h2, g2, h3⟩ := hd
  exact ⟨h1, h2, g, h, g2, h3, q⟩
theorem gh_restore0 (k : KH m X Z t0 mb C s hs c sv ish tx ln) (hf : ish = 0) : Ok G kX5_restore 4 [.inr (some X)] sz m 0 0 (PI (-5) sz m) := by
  obtain ⟨g, h, cg, pq, q⟩ := k
  exact ok5_restore1 pq hf
theorem gh_restore (k : KH m X Z t0 mb C s hs c sv ish tx ln) (hf : ish ≠ 0) : Ok G kX5_restore 4 [.inr (some X)] sz m 0 0 (fun ret z m' => ret = some (.inl (c 3)) ∧ sz ≤ z ∧ KH m' X Z t0 mb C c (recH hs sv s) c (recV sv) ish tx ln) := by
  obtain ⟨g, h, cg, pq, q⟩ := k
  exact okPost (ok5_restore2 pq hf) (fun r z m' hd => KH.done hd pq.sv_b q)
end
