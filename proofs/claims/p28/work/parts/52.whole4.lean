-- acts of the whole log: what they share
def recR (h : Int → Nat × BS) (sv : Int) (s : Int → Int) (i : Int) : Int → Int := if sv = 4 then (if i < 3 then (h (i + 1)).2.1 else s) else (if i < sv then (h i).2.1 else s)
section
variable {G : GX} {y : MK} {R : Room} {Qf : QF} {pc pc' k n idx : Nat} {L : List (Option AV)} {S : List AV} {sz : Nat} {m m1 mb : Mem} {X Z t0 : Nat} {C : Int} {b c : BS} {h : Int → Nat × BS} {sv ish ln : Int} {tx : Int → Int}
theorem V.beg (hA : At y pc (.invokevirtual idx) 3 pc') (hl : Cond.methodLink y.1.cls idx yX5_begin ∈ GW) (p : PQ m X Z t0 mb C b h c sv ish tx ln) (h8 : S.length ≤ 8) (hr : (3 + 1 ≤ R.frames ∧ 8 + (1 + 11) + 40 * 3 ≤ R.locals) ∧ k + 0 ≤ R.cells ∧ n + 0 ≤ R.slots) (kk : ∀ (m2 : Mem) (g2 : Int → Option Nat), PQ m2 X Z t0 mb C b (upI h sv ((h sv).1, (b.1, g2))) c sv ish tx ln → Use Z t0 m2 C (b.1, g2) → V G y R Qf pc' L S sz m2 k n) : V G y R Qf pc L (.inr (some X) :: S) sz m k n := by
  refine call_X5_begin hA hl (ok_begin p) p.1.1 h8 hr (fun r z m2 q => ?_)
  obtain ⟨rfl, rfl, g2, q1, q2⟩ := q
  exact kk m2 g2 q1 q2
theorem V.endS {ans : Int} (hA : At y pc (.invokevirtual idx) 3 pc') (hl : Cond.methodLink y.1.cls idx yX5_end ∈ GW) (p : PQ m X Z t0 mb C b h c sv ish tx ln) (u : Use Z t0 m C (h sv).2) (ha : 0 ≤ ans) (h8 : S.length ≤ 8) (hr : (3 + 1 ≤ R.frames ∧ 8 + (2 + 11) + 40 * 3 ≤ R.locals) ∧ k + 0 ≤ R.cells ∧ n + 0 ≤ R.slots) (kk : ∀ (m2 : Mem) (h2 : Int → Nat × BS), PQ m2 X Z t0 mb C b h2 c (recV sv) ish tx ln → (∀ i, 0 ≤ i → i < recV sv → (h2 i).2.1 = recR h sv (h sv).2.1 i) → V G y R Qf pc' L (.inl ans :: S) sz m2 k n) : V G y R Qf pc L (.inl ans :: .inr (some X) :: S) sz m k n := by
  have p10 := p.1.2.2.2.2.2.2.2.2.2.1
  by_cases q : sv = 4
  · refine call_X5_end hA hl (ok_end3 p u ha q) p.1.1 h8 hr (fun r z m2 w => ?_)
    obtain ⟨rfl, rfl, w⟩ := w
    have e : recV sv = 4 := by unfold recV; rw [if_pos q]; rfl
    refine kk m2 (rotH h) (by rw [e]; exact w) (fun i i0 i1 => ?_)
    rw [e] at i1
    unfold recR
    rw [if_pos q, rotH_i ⟨i0, i1⟩]
    by_cases q3 : i < 3
    · rw [if_pos q3]
    · rw [if_neg q3, show i + 1 = sv by omega]
  · refine call_X5_end hA hl (ok_end2 p u ha (by omega)) p.1.1 h8 hr (fun r z m2 w => ?_)
    obtain ⟨rfl, rfl, w⟩ := w
    have e : recV sv = sv + 1 := by unfold recV; rw [if_neg q]
    refine kk m2 h (by rw [e]; exact w) (fun i i0 i1 => ?_)
    rw [e] at i1
    unfold recR
    rw [if_neg q]
    by_cases q3 : i < sv
    · rw [if_pos q3]
    · rw [if_neg q3, show i = sv by omega]
theorem V.endF {ans : Int} {s' : Int → Int} {g' : Int → Option Nat} (hA : At y pc (.invokevirtual idx) 3 pc') (hl : Cond.methodLink y.1.cls idx yX5_end ∈ GW) (p : PQ m X Z t0 mb C b h c sv ish tx ln) (u : Use Z t0 m C (h sv).2) (x : Ext m m1) (ha : ans < 0) (h8 : S.length ≤ 8) (hr : (3 + 1 ≤ R.frames ∧ 8 + (2 + 11) + 40 * 3 ≤ R.locals) ∧ k + 0 ≤ R.cells ∧ n + 0 ≤ R.slots) (kk : ∀ (m2 : Mem) (g2 : Int → Option Nat), PQ m2 X Z t0 mb C ((h sv).2.1, g2) h c sv ish tx ln → V G y R Qf pc' L (.inl ans :: S) sz m2 k n) : V G y R Qf pc L (.inl ans :: .inr (some X) :: S) sz (BM m1 (X + 1) s' g') k n := by
  have p9 := p.1.2.2.2.2.2.2.2.2.1
  refine call_X5_end hA hl (ok_end1 p u x ha) ((BM_n (Or.inl (by omega))).trans (x.at p.1.1 obj_nu)) h8 hr (fun r z m2 w => ?_)
  obtain ⟨rfl, rfl, g2, w⟩ := w
  exact kk m2 g2 w
-- what an act leaves: done, or undone
def done (X Z t0 : Nat) (mb : Mem) (D : Int) (s1 s : Int → Int) (h : Int → Nat × BS) (c : BS) (sv ish : Int) (tx : Int → Int) (ln ans : Int) (sz : Nat) : PO := fun ret z m' => ret = some (.inl ans) ∧ sz ≤ z ∧ ∃ (g2 : Int → Option Nat) (h2 : Int → Nat × BS), PQ m' X Z t0 mb D (s1, g2) h2 c (recV sv) ish tx ln ∧ ∀ i, 0 ≤ i → i < recV sv → (h2 i).2.1 = recR h sv s i
def undone (X Z t0 : Nat) (mb : Mem) (D : Int) (s : Int → Int) (h : Int → Nat × BS) (c : BS) (sv ish : Int) (tx : Int → Int) (ln ans : Int) (sz : Nat) : PO := fun ret z m' => ret = some (.inl ans) ∧ sz ≤ z ∧ ∃ (g2 : Int → Option Nat) (h2 : Int → Nat × BS), PQ m' X Z t0 mb D (s, g2) h2 c sv ish tx ln ∧ ∀ i, 0 ≤ i → i < sv → (h2 i).2.1 = (h i).2.1
end
