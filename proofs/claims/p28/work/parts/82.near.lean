-- a cell in front of the object's; the row of numbers behind it
section
variable {G : GX} {m mb : Mem} {X Z t0 : Nat} {C : Int} {s c : Int → Int} {hs : Int → Int → Int} {sv ish ln : Int} {tx : Int → Int} {sz : Nat}
theorem khMove {m1 mb1 : Mem} (k : KH m X Z t0 mb C s hs c sv ish tx ln) (x : ∀ a, (a = t0 ∨ (X ≤ a ∧ a < X + 157) ∨ Z ≤ a) → m1 a = m a) (hf : ∀ a, X + 157 ≤ a → a < Z → m1 a = mb1 a ∧ mb1 a ≠ unk) : KH m1 X Z t0 mb1 C s hs c sv ish tx ln := by
  obtain ⟨g, h, cg, ⟨⟨p1, p2, p3, ⟨h0, p4⟩, p5, p6, p7, p8, p9, p10, p11, p12, p13, p14⟩, u1, u2, u3⟩, q⟩ := k
  have ent : ∀ (s : Int → Int) (g : Int → Option Nat), EntsR Z t0 m s g → EntsR Z t0 m1 s g := fun s g hE i i0 i1 => by
    obtain ⟨e, q1, q2, am, va, nv, vf, q3, q4, q5, q6⟩ := hE i i0 i1
    exact ⟨e, q1, q2, am, va, nv, vf, (x e (by omega)).trans q3, q4, (x va (by omega)).trans q5, q6⟩
  have blk : ∀ (A : Nat) (d : BS), X ≤ A → A + 22 ≤ X + 157 → BQ Z m A d → BQ Z m1 A d := fun A d hA hA2 q => ⟨q.1.keep (fun a a0 a1 => x a (by omega)), fun i i0 i1 e he => by
    obtain ⟨q1, fs, q2⟩ := q.2 i i0 i1 e he
    exact ⟨q1, fs, (x e (by omega)).trans q2⟩⟩
  have use : ∀ (d : BS), Use Z t0 m C d → Use Z t0 m1 C d := fun d u => ⟨ent _ _ u.1, u.2⟩
  exact ⟨g, h, cg, ⟨⟨(x _ (by omega)).trans p1, (x _ (by omega)).trans p2, (x _ (by omega)).trans p3, ⟨h0, (x _ (by omega)).trans p4⟩, blk _ _ (by omega) (by omega) p5, blk _ _ (by omega) (by omega) p6, fun i i0 i1 => blk _ _ (by have := (p8 i i0 i1).1; omega) (by have := (p8 i i0 i1).1; omega) (p7 i i0 i1), p8, p9, p10, p11, p12, p13, hf⟩, use _ u1, fun q => use _ (u2 q), fun i i0 i1 => use _ (u3 i i0 i1)⟩, q⟩
theorem KH.fr (k : KH m X Z t0 mb C s hs c sv ish tx ln) : ∀ a, X + 157 ≤ a → a < Z → m a = mb a ∧ mb a ≠ unk := by
  obtain ⟨g, h, cg, p, -⟩ := k
  exact p.1.2.2.2.2.2.2.2.2.2.2.2.2.2
theorem KH.tz (k : KH m X Z t0 mb C s hs c sv ish tx ln) : (∃ h0, m t0 = iar 0 h0) ∧ t0 < X ∧ X + 157 ≤ Z := by
  obtain ⟨g, h, cg, p, -⟩ := k
  exact ⟨p.1.2.2.2.1, p.1.2.2.2.2.2.2.2.2.1⟩
theorem khFront {b : Nat} {cc : AC} (k : KH m X Z t0 mb C s hs c sv ish tx ln) (hb : b < X ∧ b ≠ t0) : KH (upM m b cc) X Z t0 mb C s hs c sv ish tx ln := by
  have hz := k.tz.2
  have hf := k.fr
  exact khMove k (fun a ha => upM_n (by omega)) (fun a a0 a1 => by rw [upM_n (by omega)]; exact hf a a0 a1)
theorem khRow {cc : AC} (k : KH m X (X + 158) t0 mb C s hs c sv ish tx ln) (hc : cc ≠ unk) : KH (upM m (X + 157) cc) X (X + 158) t0 (upM m (X + 157) cc) C s hs c sv ish tx ln := by
  have hz := k.tz.2
  exact khMove k (fun a ha => upM_n (by omega)) (fun a a0 a1 => ⟨rfl, by rw [show a = X + 157 by omega, upM_s]; exact hc⟩)
theorem lar_nu {n : Nat} {f : Int → Int64} : lar n f ≠ unk := fun q => by cases q
def actB (X Z t0 : Nat) (mb : Mem) (C : Int) (s : Int → Int) (hs : Int → Int → Int) (c : Int → Int) (sv ish : Int) (tx : Int → Int) (ln : Int) (b L : Nat) (a : Int) (m' : Mem) : Prop := ((a < 0 ∧ KH m' X Z t0 mb (C + 1) s hs c sv ish tx ln) ∨ (0 ≤ a ∧ ∃ s1, KH m' X Z t0 mb (C + 1) s1 (recH hs sv s) c (recV sv) ish tx ln)) ∧ SB m' b L
theorem gaB {y : MK} {d mc ms b L : Nat} {args : List AV} (hb : b < G.2.2.1 ∧ G.2.2.1 ≤ X) (sb : SB m b L) (hbt : b = t0 → L = 0) (ok : Ok G y d args sz m mc ms (actP X Z t0 mb C s hs c sv ish tx ln sz)) : Ok G y d args sz m mc ms (fun ret z m' => sz ≤ z ∧ ∃ a : Int, ret = some (.inl a) ∧ actB X Z t0 mb C s hs c sv ish tx ln b L a m') := by
  by_cases q : b = t0
  · have hL := hbt q
    have fin : ∀ (m' : Mem) (D : Int) (s' c' : Int → Int) (hs' : Int → Int → Int) (v i l : Int) (t : Int → Int), KH m' X Z t0 mb D s' hs' c' v i t l → SB m' b L := fun m' D s' c' hs' v i l t k => by
      obtain ⟨⟨h0, e⟩, -⟩ := k.tz
      subst q hL
      exact ⟨0, h0, e, fun w => absurd rfl w⟩
    refine okPost ok (fun r z m' hd => ?_)
    obtain ⟨hz, a, e1, ⟨e2, e3⟩ | ⟨e2, s1, e3⟩⟩ := hd
    · exact ⟨hz, a, e1, Or.inl ⟨e2, e3⟩, fin _ _ _ _ _ _ _ _ _ e3⟩
    · exact ⟨hz, a, e1, Or.inr ⟨e2, s1, e3⟩, fin _ _ _ _ _ _ _ _ _ e3⟩
  · refine okPost (okKeep hb.1 ok) (fun r z m' hd => ?_)
    obtain ⟨m1, ⟨hz, a, e1, e2⟩, rfl⟩ := hd
    have sb2 : SB (upM m1 b (m b)) b L := by
      unfold SB
      rw [upM_s]
      exact sb
    refine ⟨hz, a, e1, ?_, sb2⟩
    rcases e2 with ⟨e2, e3⟩ | ⟨e2, s1, e3⟩
    · exact Or.inl ⟨e2, khFront e3 ⟨by omega, q⟩⟩
    · exact Or.inr ⟨e2, s1, khFront e3 ⟨by omega, q⟩⟩
theorem ga_crashP (k : KH m X Z t0 mb C s hs c sv ish tx ln) (hC : C + 1 ≤ 20000) : Ok G kX5_crash 5 [.inr (some X)] sz m 0 0 (actP X Z t0 mb C s hs c sv ish tx ln sz) := okPost (ga_crash k hC) (fun r z m' ⟨h1, a, h2, h3, h4⟩ => ⟨h1, a, h2, Or.inr ⟨h3, h4⟩⟩)
theorem gh_setWayD {w : Int} (k : KH m X Z t0 mb C s hs c sv ish tx ln) (hw : 0 ≤ w ∧ w ≤ 2) (hf : s 0 ≠ w) : Ok G kX5_setWay 4 [.inr (some X), .inl w] sz m 0 0 (fun ret z m' => ret = some (.inl (s 0)) ∧ sz ≤ z ∧ KH m' X Z t0 mb C (upI s 0 w) (recH hs sv s) c (recV sv) ish tx ln) := by
  obtain ⟨g, h, cg, p, q⟩ := k
  exact okPost (ok5_setWay3 p hw hf) (fun r z m' hd => KH.done hd p.sv_b q)
theorem recV_b (h : 0 ≤ sv ∧ sv ≤ 4) : recV sv = (if sv = 4 then 4 else sv + 1) ∧ 1 ≤ recV sv ∧ recV sv ≤ 4 := by
  unfold recV
  split <;> omega
-- two acts more, and two undone
theorem rec2 {s1 : Int → Int} (h : 0 ≤ sv ∧ sv ≤ 4) : 2 ≤ recV (recV sv) ∧ recV (recV sv) - 1 - 1 ≤ sv ∧ recV (recV sv) - 1 - 1 ≤ 3 ∧ recH (recH hs sv s) (recV sv) s1 (recV (recV sv) - 1 - 1) = s ∧ ∀ i, 0 ≤ i → i < recV (recV sv) - 1 - 1 → ∃ j, recH (recH hs sv s) (recV sv) s1 i = hs j ∧ 0 ≤ j ∧ j < sv ∧ j - sv = i - (recV (recV sv) - 1 - 1) := by
  by_cases h4 : sv = 4
  · subst h4
    refine ⟨by decide, by decide, by decide, rfl, fun i i0 i1 => ⟨i + 2, ?_, by omega, ?_, ?_⟩⟩
    · have i1 : i < 2 := i1
      show (if i < 3 then (if i + 1 < 3 then hs (i + 1 + 1) else s) else s1) = _
      rw [if_pos (by omega), if_pos (by omega)]
      congr 1
      omega
    · have i1 : i < 2 := i1
      omega
    · show i + 2 - 4 = i - 2
      omega
  by_cases h3 : sv = 3
  · subst h3
    refine ⟨by decide, by decide, by decide, rfl, fun i i0 i1 => ⟨i + 1, ?_, by omega, ?_, ?_⟩⟩
    · have i1 : i < 2 := i1
      show (if i < 3 then (if i + 1 < 3 then hs (i + 1) else s) else s1) = _
      rw [if_pos (by omega), if_pos (by omega)]
    · have i1 : i < 2 := i1
      omega
    · show i + 1 - 3 = i - 2
      omega
  have e1 : recV sv = sv + 1 := by unfold recV; rw [if_neg h4]
  have e2 : recV (sv + 1) = sv + 1 + 1 := by unfold recV; rw [if_neg (by omega)]
  rw [e1, e2]
  refine ⟨by omega, by omega, by omega, ?_, fun i i0 i1 => ⟨i, ?_, i0, by omega, by omega⟩⟩
  · unfold recH
    rw [if_neg (by omega), if_pos (by omega), if_neg h4, if_neg (by omega)]
  · unfold recH
    rw [if_neg (by omega), if_pos (by omega), if_neg h4, if_pos (by omega)]
-- one act more
theorem rec1 {f : Int → Int64} {acts : Int} (h : 0 ≤ sv ∧ sv ≤ 4) (hv : (acts ≤ 3 → sv = acts) ∧ (4 ≤ acts → sv = 4)) (r : ∀ i, 0 ≤ i → i < sv → seenZ (hs i) = f (acts - sv + i)) (hf : f acts = seenZ s) : ∀ i, 0 ≤ i → i < recV sv → seenZ (recH hs sv s i) = f (acts + 1 - recV sv + i) := by
  intro i i0 i1
  have hb := recV_b h
  unfold recH
  by_cases h4 : sv = 4
  · have e : recV sv = 4 := by rw [hb.1, if_pos h4]
    rw [e] at i1 ⊢
    rw [if_pos h4]
    by_cases h3 : i < 3
    · rw [if_pos h3, r _ (by omega) (by omega)]
      congr 1
      omega
    · rw [if_neg h3, ← hf]
      congr 1
      omega
  · have e : recV sv = sv + 1 := by rw [hb.1, if_neg h4]
    rw [e] at i1 ⊢
    rw [if_neg h4]
    by_cases h3 : i < sv
    · rw [if_pos h3, r _ i0 h3]
      congr 1
      omega
    · rw [if_neg h3, ← hf]
      congr 1
      omega
end
