-- what is drawn, and what is seen of an object
theorem okw_part {G : GX} {x n : Int} {sz : Nat} {m : Mem} (hn : 0 < n) : OkW G kL_part 0 [wi x, wi n] sz m 0 0 (PIw (x % 2147483648 % n) sz m) := by
  refine OkW.body [some (wi x), some (wi n)] rfl (Nat.le_of_ble_eq_true rfl) (by decide) ?_
  refine Vw.ild0 aL_part_0 ?_
  refine Vw.ldc aL_part_1 (z := 2147483647) gq_RL_7 (by decide) ?_
  refine Vw.iandP aL_part_3 ?_
  refine Vw.ild1 aL_part_4 ?_
  refine Vw.irem aL_part_5 (by omega) (by omega) ?_
  refine Vw.iret aL_part_6 rfl (by decide) ?_
  exact ⟨rfl, rfl, rfl⟩
def SB (m : Mem) (b L : Nat) : Prop := ∃ (t : Nat) (f : Int → Int), m b = .inr (.inl (t, L, f)) ∧ (L ≠ 0 → t = 2)
theorem okw_drawn {G : GX} {b L : Nat} {k : Int} {sz : Nat} {m : Mem} (sb : SB m b L) (hL : L ≤ 260) (hk : 0 ≤ k ∧ k < 24) : OkW G kL_drawn 0 [wr (some b), wi k] sz m 0 0 (fun r z m' => (∃ x : Int, r = some (wi x)) ∧ z = sz ∧ m' = m) := by
  refine OkW.body [some (wr (some b)), some (wi k)] rfl (Nat.le_of_ble_eq_true rfl) (by decide) ?_
  obtain ⟨t, f, hb, ht⟩ := sb
  refine Vw.ald0 aL_drawn_0 ?_
  refine Vw.alenT aL_drawn_1 hb (by omega) ?_
  refine Vw.if_ne aL_drawn_2 (tgt := 15) (by decide) (fun c2 => ?_) (fun c2 => ?_)
  · refine Vw.ald0 aL_drawn_15 ?_
    refine Vw.ild1 aL_drawn_16 ?_
    refine Vw.ald0 aL_drawn_17 ?_
    refine Vw.alenT aL_drawn_18 hb (by omega) ?_
    refine Vw.irem aL_drawn_19 (by omega) (by omega) ?_
    refine Vw.fald aL_drawn_20 (show m b = fiar L f by rw [hb, ht (by omega)]; rfl) (Int.emod_nonneg _ (by omega)) (Int.emod_lt_of_pos _ (by omega)) (fun _ => ?_)
    refine Vw.ild1 aL_drawn_21 ?_
    refine Vw.bipush aL_drawn_22 (by decide) (by decide) ?_
    refine Vw.irem aL_drawn_24 (by omega) (by omega) ?_
    refine Vw.ishr aL_drawn_25 (fun z25 i25 => ?_)
    refine Vw.ild1 aL_drawn_26 ?_
    refine Vw.ald0 aL_drawn_27 ?_
    refine Vw.alenT aL_drawn_28 hb (by omega) ?_
    refine Vw.idiv aL_drawn_29 (by omega) (by omega) ?_
    refine Vw.bipush aL_drawn_30 (by decide) (by decide) ?_
    refine Vw.imul aL_drawn_32 (by have q1 : 0 ≤ k / (L : Int) := Int.ediv_nonneg hk.1 (by omega); have q2 : k / (L : Int) ≤ k := Int.ediv_le_self _ hk.1; omega) ?_
    refine Vw.ixor aL_drawn_33 (fun z33 i33 => ?_)
    refine Vw.ild1 aL_drawn_34 ?_
    refine Vw.ldc aL_drawn_35 (z := 2654435) gq_RL_8 (by decide) ?_
    refine Vw.imul aL_drawn_37 (by omega) ?_
    refine Vw.ixor aL_drawn_38 (fun z38 i38 => ?_)
    refine Vw.iret aL_drawn_39 rfl (by decide) ?_
    exact ⟨⟨_, rfl⟩, rfl, rfl⟩
  · refine Vw.sipush aL_drawn_5 (by decide) (by decide) ?_
    refine Vw.ild1 aL_drawn_8 ?_
    refine Vw.imul aL_drawn_9 (by omega) ?_
    refine Vw.iconst aL_drawn_10 (by decide) ?_
    refine Vw.iadd aL_drawn_11 (by omega) ?_
    refine Vw.goto aL_drawn_12 (tgt := 39) (by decide) ?_
    refine Vw.iret aL_drawn_39 rfl (by decide) ?_
    exact ⟨⟨_, rfl⟩, rfl, rfl⟩
-- all that is told, in one number
def seenC (s : Int → Int) (h : Int64) (k : Int) : Int64 := 31 * h + (Int32.ofInt (countZ s 0 0 k)).toInt64
def seenB (s : Int → Int) (h : Int64) (k : Int) : Int64 := 31 * (31 * h + (Int32.ofInt (s (8 + 12 * (k / 12) + k % 12))).toInt64) + (Int32.ofInt (s (80 + 12 * (k / 12) + k % 12))).toInt64
def seenP (s : Int → Int) (h : Int64) (k : Int) : Int64 := 31 * h + (Int32.ofInt (pageZ s (k / 7) (k % 7))).toInt64
def seenE (s : Int → Int) (e : Int) (h : Int64) (w : Int) : Int64 := 31 * h + (Int32.ofInt (entryZ s e w)).toInt64
def seenL (s : Int → Int) (h : Int64) (e : Int) : Int64 := foldI (seenE s e) h 0 7
def seen1 (s : Int → Int) : Int64 := foldI (seenC s) 7 0 12
def seen2 (s : Int → Int) : Int64 := foldI (seenB s) (seen1 s) 0 72
def seen3 (s : Int → Int) : Int64 := foldI (seenP s) (seen2 s) 0 42
def seenZ (s : Int → Int) : Int64 := foldI (seenL s) (seen3 s) (s 2) (s 3)
theorem countZ_lt {s : Int → Int} {sv ln k : Int} (h : k < 12) : countZ s sv ln k = countZ s 0 0 k := by
  have h12 : ¬ k = 12 := by omega
  have h13 : ¬ k = 13 := by omega
  simp only [countZ, h12, h13, if_false]
section
variable {G : GX} {Qf : QF} {m mb : Mem} {X Z t0 : Nat} {C : Int} {s c : Int → Int} {hs : Int → Int → Int} {sv ish ln : Int} {tx : Int → Int} {sz : Nat}
theorem gt_count0 (k : KH m X Z t0 mb C s hs c sv ish tx ln) : Ok G kX5_count 4 [.inr (some X), .inl 0] sz m 0 0 (PI (s 3) sz m) := gt_count k
theorem gt_count1 (k : KH m X Z t0 mb C s hs c sv ish tx ln) : Ok G kX5_count 4 [.inr (some X), .inl 1] sz m 0 0 (PI (s 3 - s 2) sz m) := gt_count k
theorem seen_1 {x4 : Option LW} (kh : KH m X Z t0 mb C s hs c sv ish tx ln) (K : Vw G kL_seen (rmM 5 0 0) Qf 31 [some (wr (some X)), some (wl (seen1 s)), none, some (wi 12), x4] [] sz m 0 0) : ∀ (n : Nat) (k : Int), 12 - k = n → 0 ≤ k → Vw G kL_seen (rmM 5 0 0) Qf 6 [some (wr (some X)), some (wl (foldI (seenC s) 7 0 k)), none, some (wi k), x4] [] sz m 0 0 := by
  obtain ⟨fs, ho⟩ := kh.o
  intro n
  induction n with
  | zero =>
    intro k hn h0
    have e : k = 12 := by omega
    subst e
    refine Vw.ild3 aL_seen_6 ?_
    refine Vw.bipush aL_seen_7 (by decide) (by decide) ?_
    refine Vw.icmp_ge aL_seen_9 (tgt := 31) (by decide) (fun c9 => ?_) (fun c9 => by exfalso; omega)
    exact K
  | succ n ih =>
    intro k hn h0
    have q := ih (k + 1) (by omega) (by omega)
    rw [foldI_s h0] at q
    unfold seenC at q
    rw [← countZ_lt (sv := sv) (ln := ln) (by omega)] at q
    refine Vw.ild3 aL_seen_6 ?_
    refine Vw.bipush aL_seen_7 (by decide) (by decide) ?_
    refine Vw.icmp_ge aL_seen_9 (tgt := 31) (by decide) (fun c9 => by exfalso; omega) (fun c9 => ?_)
    refine Vw.ldc2 aL_seen_12 gq_RL_11 ?_
    refine Vw.lld1 aL_seen_15 ?_
    refine Vw.lmul aL_seen_16 ?_
    refine Vw.ald0 aL_seen_17 ?_
    refine Vw.ild3 aL_seen_18 ?_
    refine wall_X5_count aL_seen_19 gl_RL_13 (gt_count kh) ho (Nat.le_of_ble_eq_true rfl) (by decide) (gwL ?_)
    refine Vw.i2l aL_seen_22 ?_
    refine Vw.ladd aL_seen_23 ?_
    refine Vw.lst1 aL_seen_24 rfl ?_
    refine Vw.inc3 aL_seen_25 (by omega) rfl ?_
    refine Vw.goto aL_seen_28 (tgt := 6) (by decide) ?_
    exact q
theorem seen_2 {x4 : Option LW} (kh : KH m X Z t0 mb C s hs c sv ish tx ln) (K : Vw G kL_seen (rmM 5 0 0) Qf 83 [some (wr (some X)), some (wl (seen2 s)), none, some (wi 72), x4] [] sz m 0 0) : ∀ (n : Nat) (k : Int), 72 - k = n → 0 ≤ k → Vw G kL_seen (rmM 5 0 0) Qf 33 [some (wr (some X)), some (wl (foldI (seenB s) (seen1 s) 0 k)), none, some (wi k), x4] [] sz m 0 0 := by
  obtain ⟨fs, ho⟩ := kh.o
  intro n
  induction n with
  | zero =>
    intro k hn h0
    have e : k = 72 := by omega
    subst e
    refine Vw.ild3 aL_seen_33 ?_
    refine Vw.bipush aL_seen_34 (by decide) (by decide) ?_
    refine Vw.icmp_ge aL_seen_36 (tgt := 83) (by decide) (fun c36 => ?_) (fun c36 => by exfalso; omega)
    exact K
  | succ n ih =>
    intro k hn h0
    have q := ih (k + 1) (by omega) (by omega)
    rw [foldI_s h0] at q
    unfold seenB at q
    refine Vw.ild3 aL_seen_33 ?_
    refine Vw.bipush aL_seen_34 (by decide) (by decide) ?_
    refine Vw.icmp_ge aL_seen_36 (tgt := 83) (by decide) (fun c36 => by exfalso; omega) (fun c36 => ?_)
    refine Vw.ldc2 aL_seen_39 gq_RL_11 ?_
    refine Vw.ldc2 aL_seen_42 gq_RL_11 ?_
    refine Vw.lld1 aL_seen_45 ?_
    refine Vw.lmul aL_seen_46 ?_
    refine Vw.ald0 aL_seen_47 ?_
    refine Vw.ild3 aL_seen_48 ?_
    refine Vw.bipush aL_seen_49 (by decide) (by decide) ?_
    refine Vw.idiv aL_seen_51 (by omega) (by omega) ?_
    refine Vw.ild3 aL_seen_52 ?_
    refine Vw.bipush aL_seen_53 (by decide) (by decide) ?_
    refine Vw.irem aL_seen_55 (by omega) (by omega) ?_
    refine wall_X5_cell aL_seen_56 gl_RL_19 (gt_cell kh (by omega)) ho (Nat.le_of_ble_eq_true rfl) (by decide) (gwL ?_)
    refine Vw.i2l aL_seen_59 ?_
    refine Vw.ladd aL_seen_60 ?_
    refine Vw.lmul aL_seen_61 ?_
    refine Vw.ald0 aL_seen_62 ?_
    refine Vw.ild3 aL_seen_63 ?_
    refine Vw.bipush aL_seen_64 (by decide) (by decide) ?_
    refine Vw.idiv aL_seen_66 (by omega) (by omega) ?_
    refine Vw.ild3 aL_seen_67 ?_
    refine Vw.bipush aL_seen_68 (by decide) (by decide) ?_
    refine Vw.irem aL_seen_70 (by omega) (by omega) ?_
    refine wall_X5_stored aL_seen_71 gl_RL_23 (gt_stored kh (by omega)) ho (Nat.le_of_ble_eq_true rfl) (by decide) (gwL ?_)
    refine Vw.i2l aL_seen_74 ?_
    refine Vw.ladd aL_seen_75 ?_
    refine Vw.lst1 aL_seen_76 rfl ?_
    refine Vw.inc3 aL_seen_77 (by omega) rfl ?_
    refine Vw.goto aL_seen_80 (tgt := 33) (by decide) ?_
    exact q
theorem seen_3 {x4 : Option LW} (kh : KH m X Z t0 mb C s hs c sv ish tx ln) (K : Vw G kL_seen (rmM 5 0 0) Qf 117 [some (wr (some X)), some (wl (seen3 s)), none, some (wi 42), x4] [] sz m 0 0) : ∀ (n : Nat) (k : Int), 42 - k = n → 0 ≤ k → Vw G kL_seen (rmM 5 0 0) Qf 85 [some (wr (some X)), some (wl (foldI (seenP s) (seen2 s) 0 k)), none, some (wi k), x4] [] sz m 0 0 := by
  obtain ⟨fs, ho⟩ := kh.o
  intro n
  induction n with
  | zero =>
    intro k hn h0
    have e : k = 42 := by omega
    subst e
    refine Vw.ild3 aL_seen_85 ?_
    refine Vw.bipush aL_seen_86 (by decide) (by decide) ?_
    refine Vw.icmp_ge aL_seen_88 (tgt := 117) (by decide) (fun c88 => ?_) (fun c88 => by exfalso; omega)
    exact K
  | succ n ih =>
    intro k hn h0
    have q := ih (k + 1) (by omega) (by omega)
    rw [foldI_s h0] at q
    unfold seenP at q
    refine Vw.ild3 aL_seen_85 ?_
    refine Vw.bipush aL_seen_86 (by decide) (by decide) ?_
    refine Vw.icmp_ge aL_seen_88 (tgt := 117) (by decide) (fun c88 => by exfalso; omega) (fun c88 => ?_)
    refine Vw.ldc2 aL_seen_91 gq_RL_11 ?_
    refine Vw.lld1 aL_seen_94 ?_
    refine Vw.lmul aL_seen_95 ?_
    refine Vw.ald0 aL_seen_96 ?_
    refine Vw.ild3 aL_seen_97 ?_
    refine Vw.bipush aL_seen_98 (by decide) (by decide) ?_
    refine Vw.idiv aL_seen_100 (by omega) (by omega) ?_
    refine Vw.ild3 aL_seen_101 ?_
    refine Vw.bipush aL_seen_102 (by decide) (by decide) ?_
    refine Vw.irem aL_seen_104 (by omega) (by omega) ?_
    refine wall_X5_page aL_seen_105 gl_RL_26 (gt_page kh (by omega)) ho (Nat.le_of_ble_eq_true rfl) (by decide) (gwL ?_)
    refine Vw.i2l aL_seen_108 ?_
    refine Vw.ladd aL_seen_109 ?_
    refine Vw.lst1 aL_seen_110 rfl ?_
    refine Vw.inc3 aL_seen_111 (by omega) rfl ?_
    refine Vw.goto aL_seen_114 (tgt := 85) (by decide) ?_
    exact q
theorem seen_4 {e : Int} {h : Int64} (kh : KH m X Z t0 mb C s hs c sv ish tx ln) (he : s 2 ≤ e ∧ e ≤ s 3 - 1) (K : Vw G kL_seen (rmM 5 0 0) Qf 169 [some (wr (some X)), some (wl (seenL s h e)), none, some (wi e), some (wi 7)] [] sz m 0 0) : ∀ (n : Nat) (k : Int), 7 - k = n → 0 ≤ k → Vw G kL_seen (rmM 5 0 0) Qf 141 [some (wr (some X)), some (wl (foldI (seenE s e) h 0 k)), none, some (wi e), some (wi k)] [] sz m 0 0 := by
  obtain ⟨fs, ho⟩ := kh.o
  intro n
  induction n with
  | zero =>
    intro k hn h0
    have e : k = 7 := by omega
    subst e
    refine Vw.ild4 aL_seen_141 ?_
    refine Vw.bipush aL_seen_143 (by decide) (by decide) ?_
    refine Vw.icmp_ge aL_seen_145 (tgt := 169) (by decide) (fun c145 => ?_) (fun c145 => by exfalso; omega)
    exact K
  | succ n ih =>
    intro k hn h0
    have q := ih (k + 1) (by omega) (by omega)
    rw [foldI_s h0] at q
    unfold seenE at q
    refine Vw.ild4 aL_seen_141 ?_
    refine Vw.bipush aL_seen_143 (by decide) (by decide) ?_
    refine Vw.icmp_ge aL_seen_145 (tgt := 169) (by decide) (fun c145 => by exfalso; omega) (fun c145 => ?_)
    refine Vw.ldc2 aL_seen_148 gq_RL_11 ?_
    refine Vw.lld1 aL_seen_151 ?_
    refine Vw.lmul aL_seen_152 ?_
    refine Vw.ald0 aL_seen_153 ?_
    refine Vw.ild3 aL_seen_154 ?_
    refine Vw.ild4 aL_seen_155 ?_
    refine wall_X5_entry aL_seen_157 gl_RL_29 (gt_entry kh he) ho (Nat.le_of_ble_eq_true rfl) (by decide) (gwL ?_)
    refine Vw.i2l aL_seen_160 ?_
    refine Vw.ladd aL_seen_161 ?_
    refine Vw.lst1 aL_seen_162 rfl ?_
    refine Vw.inc4 aL_seen_163 (by omega) rfl ?_
    refine Vw.goto aL_seen_166 (tgt := 141) (by decide) ?_
    exact q
theorem seen_5 (kh : KH m X Z t0 mb C s hs c sv ish tx ln) (K : ∀ x4 : Option LW, Vw G kL_seen (rmM 5 0 0) Qf 175 [some (wr (some X)), some (wl (seenZ s)), none, some (wi (s 3)), x4] [] sz m 0 0) : ∀ (n : Nat) (k : Int) (x4 : Option LW), s 3 - k = n → s 2 ≤ k → Vw G kL_seen (rmM 5 0 0) Qf 129 [some (wr (some X)), some (wl (foldI (seenL s) (seen3 s) (s 2) k)), none, some (wi k), x4] [] sz m 0 0 := by
  obtain ⟨fs, ho⟩ := kh.o
  have hI := kh.inv.num
  intro n
  induction n with
  | zero =>
    intro k x4 hn h0
    have e : k = s 3 := by omega
    subst e
    refine Vw.ild3 aL_seen_129 ?_
    refine Vw.ald0 aL_seen_130 ?_
    refine Vw.iconst aL_seen_131 (by decide) ?_
    refine wall_X5_count aL_seen_132 gl_RL_13 (gt_count0 kh) ho (Nat.le_of_ble_eq_true rfl) (by decide) (gwL ?_)
    refine Vw.icmp_ge aL_seen_135 (tgt := 175) (by decide) (fun c135 => ?_) (fun c135 => by exfalso; omega)
    exact K _
  | succ n ih =>
    intro k x4 hn h0
    have q := fun y => ih (k + 1) y (by omega) (by omega)
    rw [foldI_s h0] at q
    refine Vw.ild3 aL_seen_129 ?_
    refine Vw.ald0 aL_seen_130 ?_
    refine Vw.iconst aL_seen_131 (by decide) ?_
    refine wall_X5_count aL_seen_132 gl_RL_13 (gt_count0 kh) ho (Nat.le_of_ble_eq_true rfl) (by decide) (gwL ?_)
    refine Vw.icmp_ge aL_seen_135 (tgt := 175) (by decide) (fun c135 => by exfalso; omega) (fun c135 => ?_)
    refine Vw.iconst aL_seen_138 (by decide) ?_
    refine Vw.ist4 aL_seen_139 rfl ?_
    refine seen_4 kh ⟨h0, by omega⟩ ?_ 7 0 (by decide) (by decide)
    refine Vw.inc3 aL_seen_169 (by omega) rfl ?_
    refine Vw.goto aL_seen_172 (tgt := 129) (by decide) ?_
    exact q _
theorem okw_seen (kh : KH m X Z t0 mb C s hs c sv ish tx ln) : OkW G kL_seen 5 [wr (some X)] sz m 0 0 (fun r z m' => r = some (wl (seenZ s)) ∧ z = sz ∧ m' = m) := by
  obtain ⟨fs, ho⟩ := kh.o
  have hI := kh.inv.num
  refine OkW.body [some (wr (some X)), none, none, none, none] rfl (Nat.le_of_ble_eq_true rfl) (by decide) ?_
  refine Vw.ldc2 aL_seen_0 gq_RL_9 ?_
  refine Vw.lst1 aL_seen_3 rfl ?_
  refine Vw.iconst aL_seen_4 (by decide) ?_
  refine Vw.ist3 aL_seen_5 rfl ?_
  refine seen_1 kh ?_ 12 0 (by decide) (by decide)
  refine Vw.iconst aL_seen_31 (by decide) ?_
  refine Vw.ist3 aL_seen_32 rfl ?_
  refine seen_2 kh ?_ 72 0 (by decide) (by decide)
  refine Vw.iconst aL_seen_83 (by decide) ?_
  refine Vw.ist3 aL_seen_84 rfl ?_
  refine seen_3 kh ?_ 42 0 (by decide) (by decide)
  refine Vw.ald0 aL_seen_117 ?_
  refine Vw.iconst aL_seen_118 (by decide) ?_
  refine wall_X5_count aL_seen_119 gl_RL_13 (gt_count0 kh) ho (Nat.le_of_ble_eq_true rfl) (by decide) (gwL ?_)
  refine Vw.ald0 aL_seen_122 ?_
  refine Vw.iconst aL_seen_123 (by decide) ?_
  refine wall_X5_count aL_seen_124 gl_RL_13 (gt_count1 kh) ho (Nat.le_of_ble_eq_true rfl) (by decide) (gwL ?_)
  refine Vw.isub aL_seen_127 (by omega) ?_
  refine Vw.ist3 aL_seen_128 rfl ?_
  rw [show s 3 - (s 3 - s 2) = s 2 by omega]
  have e0 : foldI (seenL s) (seen3 s) (s 2) (s 2) = seen3 s := foldI_0 (Int.le_refl _)
  have q := seen_5 (G := G) (Qf := QfW G (fun r z m' => r = some (wl (seenZ s)) ∧ z = sz ∧ m' = m) 0 0) (sz := sz) kh (fun x4 => ?_) (s 3 - s 2).toNat (s 2) none (by omega) (Int.le_refl _)
  · rw [e0] at q
    exact q
  refine Vw.lld1 aL_seen_175 ?_
  refine Vw.lret aL_seen_176 rfl (by decide) ?_
  exact ⟨rfl, rfl, rfl⟩
end

