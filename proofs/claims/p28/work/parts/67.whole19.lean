-- what the whole log tells (part three)
section
variable {G : GX} {y : MK} {R : Room} {Qf : QF} {pc pc' : Nat} {L : List (Option AV)} {st : List AV} {sz : Nat} {m : Mem} {k n : Nat}
theorem V.isubW {a b : Int} (h : At y pc .isub 1 pc') (kk : ∀ z, inR z → V G y R Qf pc' L (.inl z :: st) sz m k n) : V G y R Qf pc L (.inl b :: .inl a :: st) sz m k n := by
  obtain ⟨hd, rfl⟩ := h
  intro p e s mid args below meth c H locs ls hC hR hS hL hW
  refine lv_isub hC.1 hC.2.1 hd ?_
  have e1 : Int32.ofInt a - Int32.ofInt b = Int32.ofInt (Int32.ofInt a - Int32.ofInt b).toInt := (Int32.ofInt_toInt _).symm
  have hz : inR (Int32.ofInt a - Int32.ofInt b).toInt := ⟨Int32.le_toInt _, Int32.toInt_lt _⟩
  rw [e1]
  exact kk _ hz p e s mid args below meth c H locs ls hC hR hS hL (hW.tl.tl.push (v := .inl (Int32.ofInt a - Int32.ofInt b).toInt) hz)
theorem ok_atX {B : Nat} {s : Int → Int} {g : Int → Option Nat} {r : Int} (h : ¬ (s 2 ≤ r ∧ r < s 3)) (hN : Num s) : Ok G kX1_at 0 [.inr (some (B + 2)), .inl r] sz (BM m B s g) 0 0 (PR none sz (BM m B s g)) := by
  refine Ok.body [some (.inr (some (B + 2))), some (.inl r), none] rfl (Nat.le_of_ble_eq_true rfl) (by decide) ?_
  obtain ⟨n0, n1, n2, n3, n4⟩ := id hN
  have low : r < s 2 → ∀ z : Int, V G kX1_at (rmM 0 0 0) (QfM G (PR none sz (BM m B s g)) 0 0) 7 [some (.inr (some (B + 2))), some (.inl r), some (.inl z)] [] sz (BM m B s g) 0 0 := by
    intro hl z
    refine V.ild1 aX1_at_7 ?_
    refine V.ald0 aX1_at_8 ?_
    refine U.gfL aX1_at_9 fl_RX1_21 rfl ?_
    refine V.icmp_lt aX1_at_12 (tgt := 38) (by decide) (fun c12 => ?_) (fun c12 => ?_)
    · refine V.null aX1_at_38 ?_
      refine V.aret aX1_at_39 rfl (Or.inl ⟨_, rfl⟩) (by decide) ?_
      exact ⟨rfl, rfl, rfl⟩
    · exfalso
      omega
  have high : s 3 ≤ r → V G kX1_at (rmM 0 0 0) (QfM G (PR none sz (BM m B s g)) 0 0) 7 [some (.inr (some (B + 2))), some (.inl r), some (.inl (r - s 2))] [] sz (BM m B s g) 0 0 := by
    intro hl
    refine V.ild1 aX1_at_7 ?_
    refine V.ald0 aX1_at_8 ?_
    refine U.gfL aX1_at_9 fl_RX1_21 rfl ?_
    refine V.icmp_lt aX1_at_12 (tgt := 38) (by decide) (fun c12 => ?_) (fun c12 => ?_)
    · exfalso
      omega
    · refine V.ild2 aX1_at_15 ?_
      refine V.ald0 aX1_at_16 ?_
      refine U.gfL aX1_at_17 fl_RX1_24 rfl ?_
      refine V.icmp_ge aX1_at_20 (tgt := 38) (by decide) (fun c20 => ?_) (fun c20 => ?_)
      · refine V.null aX1_at_38 ?_
        refine V.aret aX1_at_39 rfl (Or.inl ⟨_, rfl⟩) (by decide) ?_
        exact ⟨rfl, rfl, rfl⟩
      · exfalso
        omega
  refine V.knowL (i := 1) rfl (fun hw => ?_)
  have hr : inR r := hw
  by_cases hl : r < s 2
  · skip
    refine V.ild1 aX1_at_0 ?_
    refine V.ald0 aX1_at_1 ?_
    refine U.gfL aX1_at_2 fl_RX1_21 rfl ?_
    refine V.isubW aX1_at_5 (fun z hz => ?_)
    refine V.ist2 aX1_at_6 ?_
    exact low hl z
  · have hh : s 3 ≤ r := by omega
    refine V.ild1 aX1_at_0 ?_
    refine V.ald0 aX1_at_1 ?_
    refine U.gfL aX1_at_2 fl_RX1_21 rfl ?_
    refine V.isub aX1_at_5 (by omega) ?_
    refine V.ist2 aX1_at_6 ?_
    exact high hh
end
section
variable {G : GX} {sz : Nat} {m m1 mb : Mem} {X Z t0 : Nat} {C D : Int} {b c : BS} {h : Int → Nat × BS} {sv ish ln : Int} {tx : Int → Int}
theorem ok5_entry1 {r w : Int} (p : PQ m X Z t0 mb C b h c sv ish tx ln) (hw : ¬ (b.1 2 ≤ r ∧ r ≤ b.1 3 - 1)) : Ok G kX5_entry 3 [.inr (some X), .inl r, .inl w] sz m 0 0 (PI (-1) sz m) := by
  refine Ok.body [some (.inr (some X)), some (.inl r), some (.inl w), none] rfl (Nat.le_of_ble_eq_true rfl) (by decide) ?_
  have eb := p.1.2.2.2.2.1.1.eq
  refine V.ald0 aX5_entry_0 ?_
  refine V.getf aX5_entry_1 fl_RX5_12 p.1.1 rfl ?_
  refine V.mem (m2 := BM m (X + 1) b.1 b.2) eb.symm ?_
  refine U.gfS aX5_entry_4 fl_RX5_58 rfl ?_
  refine V.ild1 aX5_entry_7 ?_
  refine call_X1_at aX5_entry_8 gl_RX5_173 (ok_atX (by omega) p.2.1.2.N) (BM_L) (Nat.le_of_ble_eq_true rfl) (by decide) (goR ?_)
  refine V.ast3 aX5_entry_11 ?_
  refine V.ald3 aX5_entry_12 ?_
  refine V.ifnonnull aX5_entry_13 (tgt := 18) (by decide) (fun v13 c13 => ?_) (fun c13 => ?_)
  · cases c13
  · refine V.iconst aX5_entry_16 (by decide) ?_
    refine V.iret aX5_entry_17 rfl (by decide) ?_
    exact PI.of2 rfl eb.symm
theorem ok5_entry2 {r w : Int} (p : PQ m X Z t0 mb C b h c sv ish tx ln) (hw : b.1 2 ≤ r ∧ r ≤ b.1 3 - 1) : Ok G kX5_entry 3 [.inr (some X), .inl r, .inl w] sz m 0 0 (PI (entryZ b.1 r w) sz m) := by
  refine Ok.body [some (.inr (some X)), some (.inl r), some (.inl w), none] rfl (Nat.le_of_ble_eq_true rfl) (by decide) ?_
  have eb := p.1.2.2.2.2.1.1.eq
  have p9 := p.1.2.2.2.2.2.2.2.2.1
  have hN := p.2.1.2.N
  have hE := p.2.1.2.E
  have hR := p.2.1.1
  have hP := p.2.1.2.P
  have hZ : X + 1 + 22 ≤ Z := by omega
  have hx : BM m (X + 1) b.1 b.2 X = obj 5 (xobj X sv ish ln) := (BM_n (Or.inl (by omega))).trans p.1.1
  obtain ⟨e, hg, he⟩ := hR (r - b.1 2) (by omega) (by omega)
  obtain ⟨am, va, ho⟩ := he.obj (B := X + 1) (s := b.1) (g := b.2) hZ
  have hok := hE r hw.1 (by omega)
  have q4 := hok.2.2.2.1
  have e0 : ofE b.1 r 0 = b.1 (170 + 17 * (r - b.1 2)) := ofE0
  have hn2 := p.2.1.2.num
  refine V.mem (m2 := BM m (X + 1) b.1 b.2) eb.symm ?_
  refine V.ald0 aX5_entry_0 ?_
  refine V.getf aX5_entry_1 fl_RX5_12 hx rfl ?_
  refine U.gfS aX5_entry_4 fl_RX5_58 rfl ?_
  refine V.ild1 aX5_entry_7 ?_
  refine call_X1_at aX5_entry_8 gl_RX5_173 (ok_at1 hg (by omega) (by omega) hN) (BM_L) (Nat.le_of_ble_eq_true rfl) (by decide) (goR ?_)
  refine V.ast3 aX5_entry_11 ?_
  refine V.ald3 aX5_entry_12 ?_
  refine V.ifnonnull aX5_entry_13 (tgt := 18) (by decide) (fun v13 c13 => ?_) (fun c13 => ?_)
  · refine V.ild2 aX5_entry_18 ?_
    refine V.tsw7 aX5_entry_19 (t0 := 60) (t1 := 65) (t2 := 70) (t3 := 75) (t4 := 80) (t5 := 92) (t6 := 115) (t7 := 123) (by decide) (by decide) (by decide) (by decide) (by decide) (by decide) (by decide) (by decide) (fun c19 => ?_) (fun c19 => ?_) (fun c19 => ?_) (fun c19 => ?_) (fun c19 => ?_) (fun c19 => ?_) (fun c19 => ?_) (fun c19 => ?_)
    · refine V.ald3 aX5_entry_60 ?_
      refine V.getf aX5_entry_61 fl_RX5_175 ho rfl ?_
      refine V.iret aX5_entry_64 rfl (by decide) ?_
      exact PI.of2 (by rw [c19]; exact e0.symm) eb.symm
    · refine V.ald3 aX5_entry_65 ?_
      refine V.getf aX5_entry_66 fl_RX5_178 ho rfl ?_
      refine V.iret aX5_entry_69 rfl (by decide) ?_
      exact PI.of2 (by rw [c19]; rfl) eb.symm
    · refine V.ald3 aX5_entry_70 ?_
      refine V.getf aX5_entry_71 fl_RX5_181 ho rfl ?_
      refine V.iret aX5_entry_74 rfl (by decide) ?_
      exact PI.of2 (by rw [c19]; rfl) eb.symm
    · refine V.ald3 aX5_entry_75 ?_
      refine call_X0_time aX5_entry_76 gl_RX5_184 (ok_time ho hok (by omega)) (ho) (Nat.le_of_ble_eq_true rfl) (by decide) (goI ?_)
      refine V.iret aX5_entry_79 rfl (by decide) ?_
      exact PI.of2 (by rw [c19]; rfl) eb.symm
    · refine V.ald0 aX5_entry_80 ?_
      refine V.getf aX5_entry_81 fl_RX5_12 hx rfl ?_
      refine V.ild1 aX5_entry_84 ?_
      refine call_X4_isNeeded aX5_entry_85 gl_RX5_187 (ok_isN4 hN hE hR hZ hP (by omega) (by omega)) (BM_S) (Nat.le_of_ble_eq_true rfl) (by decide) (goI ?_)
      refine call_X5_asNumber aX5_entry_88 gl_RX5_159 (ok_asNum (by first | exact b2_01 | omega)) (Nat.le_of_ble_eq_true rfl) (by decide) (goI ?_)
      refine V.iret aX5_entry_91 rfl (by decide) ?_
      exact PI.of2 (by rw [c19]; rfl) eb.symm
    · refine V.ild1 aX5_entry_92 ?_
      refine V.ald0 aX5_entry_93 ?_
      refine V.getf aX5_entry_94 fl_RX5_12 hx rfl ?_
      refine U.gfS aX5_entry_97 fl_RX5_58 rfl ?_
      refine U.gfL aX5_entry_100 fl_RX5_190 rfl ?_
      refine V.icmp_ge aX5_entry_103 (tgt := 110) (by decide) (fun c103 => ?_) (fun c103 => ?_)
      · refine V.iconst aX5_entry_110 (by decide) ?_
        refine call_X5_asNumber aX5_entry_111 gl_RX5_159 (ok_asNum (by first | exact b2_01 | omega)) (Nat.le_of_ble_eq_true rfl) (by decide) (goI ?_)
        refine V.iret aX5_entry_114 rfl (by decide) ?_
        exact PI.of2 (by rw [c19]; show _ = b2 (r < b.1 4); first | exact (b2_t (by omega)).symm | exact (b2_f (by omega)).symm) eb.symm
      · refine V.iconst aX5_entry_106 (by decide) ?_
        refine V.goto aX5_entry_107 (tgt := 111) (by decide) ?_
        refine call_X5_asNumber aX5_entry_111 gl_RX5_159 (ok_asNum (by first | exact b2_01 | omega)) (Nat.le_of_ble_eq_true rfl) (by decide) (goI ?_)
        refine V.iret aX5_entry_114 rfl (by decide) ?_
        exact PI.of2 (by rw [c19]; show _ = b2 (r < b.1 4); first | exact (b2_t (by omega)).symm | exact (b2_f (by omega)).symm) eb.symm
    · refine V.ald3 aX5_entry_115 ?_
      refine V.getf aX5_entry_116 fl_RX5_193 ho rfl ?_
      have q4' : b.1 (170 + 17 * (r - b.1 2) + 4) = 0 ∨ b.1 (170 + 17 * (r - b.1 2) + 4) = 1 := q4
      refine call_X5_asNumber aX5_entry_119 gl_RX5_159 (ok_asNum (by first | exact b2_01 | omega)) (Nat.le_of_ble_eq_true rfl) (by decide) (goI ?_)
      refine V.iret aX5_entry_122 rfl (by decide) ?_
      exact PI.of2 (by rw [c19]; rfl) eb.symm
    · refine V.bipush aX5_entry_123 (by decide) (by decide) ?_
      refine V.iret aX5_entry_125 rfl (by decide) ?_
      exact PI.of2 (by unfold entryZ; rw [if_neg (by omega), if_neg (by omega), if_neg (by omega), if_neg (by omega), if_neg (by omega), if_neg (by omega), if_neg (by omega)]) eb.symm
  · cases c13
theorem ok5_count {w : Int} (p : PQ m X Z t0 mb C b h c sv ish tx ln) : Ok G kX5_count 4 [.inr (some X), .inl w] sz m 0 0 (PI (countZ b.1 sv ln w) sz m) := by
  refine Ok.body [some (.inr (some X)), some (.inl w)] rfl (Nat.le_of_ble_eq_true rfl) (by decide) ?_
  have eb := p.1.2.2.2.2.1.1.eq
  have p9 := p.1.2.2.2.2.2.2.2.2.1
  have hN := p.2.1.2.N
  have hE := p.2.1.2.E
  have hR := p.2.1.1
  have hP := p.2.1.2.P
  have hD := p.2.1.2.D
  have hn2 := p.2.1.2.num
  have hZ : X + 1 + 22 ≤ Z := by omega
  have hx : BM m (X + 1) b.1 b.2 X = obj 5 (xobj X sv ish ln) := (BM_n (Or.inl (by omega))).trans p.1.1
  refine V.mem (m2 := BM m (X + 1) b.1 b.2) eb.symm ?_
  refine V.ild1 aX5_count_0 ?_
  refine V.tsw14 aX5_count_1 (t0 := 72) (t1 := 83) (t2 := 94) (t3 := 105) (t4 := 116) (t5 := 124) (t6 := 132) (t7 := 154) (t8 := 162) (t9 := 170) (t10 := 178) (t11 := 186) (t12 := 194) (t13 := 199) (t14 := 204) (by decide) (by decide) (by decide) (by decide) (by decide) (by decide) (by decide) (by decide) (by decide) (by decide) (by decide) (by decide) (by decide) (by decide) (by decide) (fun c1 => ?_) (fun c1 => ?_) (fun c1 => ?_) (fun c1 => ?_) (fun c1 => ?_) (fun c1 => ?_) (fun c1 => ?_) (fun c1 => ?_) (fun c1 => ?_) (fun c1 => ?_) (fun c1 => ?_) (fun c1 => ?_) (fun c1 => ?_) (fun c1 => ?_) (fun c1 => ?_)
  · refine V.ald0 aX5_count_72 ?_
    refine V.getf aX5_count_73 fl_RX5_12 hx rfl ?_
    refine U.gfS aX5_count_76 fl_RX5_58 rfl ?_
    refine call_X1_next aX5_count_79 gl_RX5_62 (ok_next hN) (BM_L) (Nat.le_of_ble_eq_true rfl) (by decide) (goI ?_)
    refine V.iret aX5_count_82 rfl (by decide) ?_
    exact PI.of2 (by rw [c1]; rfl) eb.symm
  · refine V.ald0 aX5_count_83 ?_
    refine V.getf aX5_count_84 fl_RX5_12 hx rfl ?_
    refine U.gfS aX5_count_87 fl_RX5_58 rfl ?_
    refine U.gfL aX5_count_90 fl_RX5_208 rfl ?_
    refine V.iret aX5_count_93 rfl (by decide) ?_
    exact PI.of2 (by rw [c1]; rfl) eb.symm
  · refine V.ald0 aX5_count_94 ?_
    refine V.getf aX5_count_95 fl_RX5_12 hx rfl ?_
    refine U.gfS aX5_count_98 fl_RX5_58 rfl ?_
    refine call_X1_sizes aX5_count_101 gl_RX5_211 (ok_sizes hN hE hR hZ) (BM_L) (Nat.le_of_ble_eq_true rfl) (by decide) (goI ?_)
    refine V.iret aX5_count_104 rfl (by decide) ?_
    exact PI.of2 (by rw [c1]; rfl) eb.symm
  · refine V.ald0 aX5_count_105 ?_
    refine V.getf aX5_count_106 fl_RX5_12 hx rfl ?_
    refine U.gfS aX5_count_109 fl_RX5_58 rfl ?_
    refine U.gfL aX5_count_112 fl_RX5_214 rfl ?_
    refine V.iret aX5_count_115 rfl (by decide) ?_
    exact PI.of2 (by rw [c1]; rfl) eb.symm
  · refine V.ald0 aX5_count_116 ?_
    refine V.getf aX5_count_117 fl_RX5_12 hx rfl ?_
    refine U.gfS aX5_count_120 fl_RX5_217 rfl ?_
    refine V.iret aX5_count_123 rfl (by decide) ?_
    exact PI.of2 (by rw [c1]; rfl) eb.symm
  · refine V.ald0 aX5_count_124 ?_
    refine V.getf aX5_count_125 fl_RX5_12 hx rfl ?_
    refine call_X4_neededEntries aX5_count_128 gl_RX5_220 (ok_needed4 hN hE hR hZ hP) (BM_S) (Nat.le_of_ble_eq_true rfl) (by decide) (goI ?_)
    refine V.iret aX5_count_131 rfl (by decide) ?_
    exact PI.of2 (by rw [c1]; rfl) eb.symm
  · refine V.ald0 aX5_count_132 ?_
    refine V.getf aX5_count_133 fl_RX5_12 hx rfl ?_
    refine U.gfS aX5_count_136 fl_RX5_58 rfl ?_
    refine call_X1_next aX5_count_139 gl_RX5_62 (ok_next hN) (BM_L) (Nat.le_of_ble_eq_true rfl) (by decide) (goI ?_)
    refine V.ald0 aX5_count_142 ?_
    refine V.getf aX5_count_143 fl_RX5_12 hx rfl ?_
    refine U.gfS aX5_count_146 fl_RX5_58 rfl ?_
    refine U.gfL aX5_count_149 fl_RX5_190 rfl ?_
    refine V.isub aX5_count_152 (by omega) ?_
    refine V.iret aX5_count_153 rfl (by decide) ?_
    exact PI.of2 (by rw [c1]; rfl) eb.symm
  · refine V.ald0 aX5_count_154 ?_
    refine V.getf aX5_count_155 fl_RX5_12 hx rfl ?_
    refine call_X4_timeToRestoreAll aX5_count_158 gl_RX5_223 (ok_timeAll hN hE hR hZ hP) (BM_S) (Nat.le_of_ble_eq_true rfl) (by decide) (goI ?_)
    refine V.iret aX5_count_161 rfl (by decide) ?_
    exact PI.of2 (by rw [c1]; rfl) eb.symm
  · refine V.ald0 aX5_count_162 ?_
    refine V.getf aX5_count_163 fl_RX5_12 hx rfl ?_
    refine call_X4_doubtfulPages aX5_count_166 gl_RX5_226 (ok_doubtP hD) (BM_S) (Nat.le_of_ble_eq_true rfl) (by decide) (goI ?_)
    refine V.iret aX5_count_169 rfl (by decide) ?_
    exact PI.of2 (by rw [c1]; rfl) eb.symm
  · refine V.ald0 aX5_count_170 ?_
    refine V.getf aX5_count_171 fl_RX5_12 hx rfl ?_
    refine U.gfS aX5_count_174 fl_RX5_88 rfl ?_
    refine V.iret aX5_count_177 rfl (by decide) ?_
    exact PI.of2 (by rw [c1]; rfl) eb.symm
  · refine V.ald0 aX5_count_178 ?_
    refine V.getf aX5_count_179 fl_RX5_12 hx rfl ?_
    refine U.gfS aX5_count_182 fl_RX5_229 rfl ?_
    refine V.iret aX5_count_185 rfl (by decide) ?_
    exact PI.of2 (by rw [c1]; rfl) eb.symm
  · refine V.ald0 aX5_count_186 ?_
    refine V.getf aX5_count_187 fl_RX5_12 hx rfl ?_
    refine U.gfS aX5_count_190 fl_RX5_232 rfl ?_
    refine V.iret aX5_count_193 rfl (by decide) ?_
    exact PI.of2 (by rw [c1]; rfl) eb.symm
  · refine V.ald0 aX5_count_194 ?_
    refine V.getf aX5_count_195 fl_RX5_121 hx rfl ?_
    refine V.iret aX5_count_198 rfl (by decide) ?_
    exact PI.of2 (by rw [c1]; rfl) eb.symm
  · refine V.ald0 aX5_count_199 ?_
    refine V.getf aX5_count_200 fl_RX5_74 hx rfl ?_
    refine V.iret aX5_count_203 rfl (by decide) ?_
    exact PI.of2 (by rw [c1]; rfl) eb.symm
  · refine V.bipush aX5_count_204 (by decide) (by decide) ?_
    refine V.iret aX5_count_206 rfl (by decide) ?_
    exact PI.of2 (by unfold countZ; repeat rw [if_neg (by omega)]) eb.symm
end
