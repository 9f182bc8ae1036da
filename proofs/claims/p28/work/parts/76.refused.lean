-- what is refused leaves all as it was
section
variable {G : GX} {y : MK} {R : Room} {Qf : QF} {pc pc' : Nat} {L : List (Option LW)} {st : List LW} {m : Mem} {k2 n2 : Nat}
theorem gwP {a : Int} {Q : Nat → Mem → Prop} (kk : ∀ z m', Q z m' → Vw G y R Qf pc' L (wi a :: st) z m' k2 n2) : ∀ (r : Option LW) (z : Nat) (m' : Mem), liftP (fun ret z m' => ret = some (.inl a) ∧ Q z m') r z m' → Vw G y R Qf pc' L (r.toList ++ st) z m' k2 n2 := by
  rintro r z m' ⟨q, rfl, rfl, h⟩
  exact kk z m' h
theorem gwQ {v : LW} {Q : Nat → Mem → Prop} (kk : ∀ z m', Q z m' → Vw G y R Qf pc' L (v :: st) z m' k2 n2) : ∀ (r : Option LW) (z : Nat) (m' : Mem), (r = some v ∧ Q z m') → Vw G y R Qf pc' L (r.toList ++ st) z m' k2 n2 := by
  rintro r z m' ⟨rfl, h⟩
  exact kk z m' h
theorem gwA {Q : Int → Nat → Mem → Prop} {sz : Nat} (kk : ∀ a z m', sz ≤ z → Q a z m' → Vw G y R Qf pc' L (wi a :: st) z m' k2 n2) : ∀ (r : Option LW) (z : Nat) (m' : Mem), liftP (fun ret z m' => sz ≤ z ∧ ∃ a : Int, ret = some (.inl a) ∧ Q a z m') r z m' → Vw G y R Qf pc' L (r.toList ++ st) z m' k2 n2 := by
  rintro r z m' ⟨q, rfl, hz, a, rfl, h⟩
  exact kk a z m' hz h
end
section
variable {G : GX} {Qf : QF} {m mb : Mem} {X Z t0 : Nat} {C : Int} {s c : Int → Int} {hs : Int → Int → Int} {sv ish ln : Int} {tx : Int → Int} {sz : Nat}
theorem gt_count3 (k : KH m X Z t0 mb C s hs c sv ish tx ln) : Ok G kX5_count 4 [.inr (some X), .inl 3] sz m 0 0 (PI (s 1) sz m) := gt_count k
theorem gt_count4 (k : KH m X Z t0 mb C s hs c sv ish tx ln) : Ok G kX5_count 4 [.inr (some X), .inl 4] sz m 0 0 (PI (s 0) sz m) := gt_count k
theorem gt_count12 (k : KH m X Z t0 mb C s hs c sv ish tx ln) : Ok G kX5_count 4 [.inr (some X), .inl 12] sz m 0 0 (PI sv sz m) := gt_count k
theorem gt_countM (k : KH m X Z t0 mb C s hs c sv ish tx ln) : Ok G kX5_count 4 [.inr (some X), .inl (-1)] sz m 0 0 (PI (-2) sz m) := gt_count k
theorem gt_countO (k : KH m X Z t0 mb C s hs c sv ish tx ln) : Ok G kX5_count 4 [.inr (some X), .inl 14] sz m 0 0 (PI (-2) sz m) := gt_count k
theorem gt_pageM (k : KH m X Z t0 mb C s hs c sv ish tx ln) : Ok G kX5_page 3 [.inr (some X), .inl 0, .inl (-1)] sz m 0 0 (PI (-2) sz m) := gt_page k (by decide)
theorem gt_pageO (k : KH m X Z t0 mb C s hs c sv ish tx ln) : Ok G kX5_page 3 [.inr (some X), .inl 0, .inl 7] sz m 0 0 (PI (-2) sz m) := gt_page k (by decide)
theorem gt_entryM {r : Int} (k : KH m X Z t0 mb C s hs c sv ish tx ln) (hw : s 2 ≤ r ∧ r ≤ s 3 - 1) : Ok G kX5_entry 3 [.inr (some X), .inl r, .inl (-1)] sz m 0 0 (PI (-2) sz m) := gt_entry k hw
theorem gt_entryO {r : Int} (k : KH m X Z t0 mb C s hs c sv ish tx ln) (hw : s 2 ≤ r ∧ r ≤ s 3 - 1) : Ok G kX5_entry 3 [.inr (some X), .inl r, .inl 7] sz m 0 0 (PI (-2) sz m) := gt_entry k hw
def refP (X Z t0 : Nat) (mb : Mem) (C : Int) (s : Int → Int) (hs : Int → Int → Int) (c : Int → Int) (sv ish : Int) (tx : Int → Int) (ln : Int) (sz : Nat) : POw := fun r z m' => r = some (wi 1) ∧ sz ≤ z ∧ KH m' X Z t0 mb C s hs c sv ish tx ln
theorem okw_refusesAny0 (kh : KH m X Z t0 mb C s hs c sv ish tx ln) : OkW G kL_refusesAny 7 [wr (some X), wi 0] sz m 60 500 (refP X Z t0 mb C s hs c sv ish tx ln sz) := by
  obtain ⟨fs, ho⟩ := kh.o
  have hI := kh.inv.num
  refine OkW.body [some (wr (some X)), some (wi 0), none, none, none] rfl (Nat.le_of_ble_eq_true rfl) (by decide) ?_
  refine Vw.ild1 aL_refusesAny_0 ?_
  refine Vw.if_ne aL_refusesAny_1 (tgt := 8) (by decide) (fun c1 => absurd c1 (by decide)) (fun c1 => ?_)
  refine Vw.iconst aL_refusesAny_4 (by decide) ?_
  refine Vw.goto aL_refusesAny_5 (tgt := 10) (by decide) ?_
  refine Vw.ist2 aL_refusesAny_10 rfl ?_
  refine Vw.ild1 aL_refusesAny_11 ?_
  refine Vw.if_ne aL_refusesAny_12 (tgt := 19) (by decide) (fun c12 => absurd c12 (by decide)) (fun c12 => ?_)
  refine Vw.iconst aL_refusesAny_15 (by decide) ?_
  refine Vw.goto aL_refusesAny_16 (tgt := 21) (by decide) ?_
  refine Vw.ist3 aL_refusesAny_21 rfl ?_
  refine Vw.ild1 aL_refusesAny_22 ?_
  refine Vw.if_ne aL_refusesAny_23 (tgt := 42) (by decide) (fun c23 => absurd c23 (by decide)) (fun c23 => ?_)
  refine Vw.ald0 aL_refusesAny_26 ?_
  refine Vw.iconst aL_refusesAny_27 (by decide) ?_
  refine wall_X5_count aL_refusesAny_28 gl_RL_13 (gt_count0 kh) ho (Nat.le_of_ble_eq_true rfl) (by decide) (gwL ?_)
  refine Vw.ald0 aL_refusesAny_31 ?_
  refine Vw.iconst aL_refusesAny_32 (by decide) ?_
  refine wall_X5_count aL_refusesAny_33 gl_RL_13 (gt_count1 kh) ho (Nat.le_of_ble_eq_true rfl) (by decide) (gwL ?_)
  refine Vw.isub aL_refusesAny_36 (by omega) ?_
  refine Vw.iconst aL_refusesAny_37 (by decide) ?_
  refine Vw.isub aL_refusesAny_38 (by omega) ?_
  refine Vw.goto aL_refusesAny_39 (tgt := 47) (by decide) ?_
  refine Vw.ist4 aL_refusesAny_47 rfl ?_
  refine Vw.ald0 aL_refusesAny_49 ?_
  refine Vw.ild2 aL_refusesAny_50 ?_
  refine Vw.iconst aL_refusesAny_51 (by decide) ?_
  refine Vw.iconst aL_refusesAny_52 (by decide) ?_
  refine Vw.bipush aL_refusesAny_53 (by decide) (by decide) ?_
  refine wall_X5_fill aL_refusesAny_55 gl_RL_32 (ok5_fill1 (by decide)) ho (Nat.le_of_ble_eq_true rfl) (by decide) (gwL ?_)
  refine Vw.iconst aL_refusesAny_58 (by decide) ?_
  refine Vw.icmp_ne aL_refusesAny_59 (tgt := 234) (by decide) (fun c59 => absurd c59 (by decide)) (fun c59 => ?_)
  refine Vw.ald0 aL_refusesAny_62 ?_
  refine Vw.iconst aL_refusesAny_63 (by decide) ?_
  refine Vw.ild3 aL_refusesAny_64 ?_
  refine Vw.iconst aL_refusesAny_65 (by decide) ?_
  refine Vw.bipush aL_refusesAny_66 (by decide) (by decide) ?_
  refine wall_X5_fill aL_refusesAny_68 gl_RL_32 (ok5_fill1 (by decide)) ho (Nat.le_of_ble_eq_true rfl) (by decide) (gwL ?_)
  refine Vw.iconst aL_refusesAny_71 (by decide) ?_
  refine Vw.icmp_ne aL_refusesAny_72 (tgt := 234) (by decide) (fun c72 => absurd c72 (by decide)) (fun c72 => ?_)
  refine Vw.ald0 aL_refusesAny_75 ?_
  refine Vw.iconst aL_refusesAny_76 (by decide) ?_
  refine Vw.iconst aL_refusesAny_77 (by decide) ?_
  refine Vw.ild3 aL_refusesAny_78 ?_
  refine Vw.bipush aL_refusesAny_79 (by decide) (by decide) ?_
  refine wall_X5_fill aL_refusesAny_81 gl_RL_32 (ok5_fill1 (by decide)) ho (Nat.le_of_ble_eq_true rfl) (by decide) (gwL ?_)
  refine Vw.iconst aL_refusesAny_84 (by decide) ?_
  refine Vw.icmp_ne aL_refusesAny_85 (tgt := 234) (by decide) (fun c85 => absurd c85 (by decide)) (fun c85 => ?_)
  refine Vw.ald0 aL_refusesAny_88 ?_
  refine Vw.iconst aL_refusesAny_89 (by decide) ?_
  refine Vw.iconst aL_refusesAny_90 (by decide) ?_
  refine Vw.iconst aL_refusesAny_91 (by decide) ?_
  refine Vw.iconst aL_refusesAny_92 (by decide) ?_
  refine wall_X5_fill aL_refusesAny_93 gl_RL_32 (ok5_fill2 (by decide) (Or.inl (by decide))) ho (Nat.le_of_ble_eq_true rfl) (by decide) (gwL ?_)
  refine Vw.bipush aL_refusesAny_96 (by decide) (by decide) ?_
  refine Vw.icmp_ne aL_refusesAny_98 (tgt := 234) (by decide) (fun c98 => absurd c98 (by decide)) (fun c98 => ?_)
  refine Vw.ald0 aL_refusesAny_101 ?_
  refine Vw.iconst aL_refusesAny_102 (by decide) ?_
  refine Vw.iconst aL_refusesAny_103 (by decide) ?_
  refine Vw.iconst aL_refusesAny_104 (by decide) ?_
  refine Vw.ild1 aL_refusesAny_105 ?_
  refine Vw.if_ne aL_refusesAny_106 (tgt := 113) (by decide) (fun c106 => absurd c106 (by decide)) (fun c106 => ?_)
  refine Vw.iconst aL_refusesAny_109 (by decide) ?_
  refine Vw.goto aL_refusesAny_110 (tgt := 115) (by decide) ?_
  refine wall_X5_fill aL_refusesAny_115 gl_RL_32 (ok5_fill2 (by decide) (Or.inr (by decide))) ho (Nat.le_of_ble_eq_true rfl) (by decide) (gwL ?_)
  refine Vw.bipush aL_refusesAny_118 (by decide) (by decide) ?_
  refine Vw.icmp_ne aL_refusesAny_120 (tgt := 234) (by decide) (fun c120 => absurd c120 (by decide)) (fun c120 => ?_)
  refine Vw.ald0 aL_refusesAny_123 ?_
  refine Vw.ild2 aL_refusesAny_124 ?_
  refine Vw.iconst aL_refusesAny_125 (by decide) ?_
  refine Vw.iconst aL_refusesAny_126 (by decide) ?_
  refine Vw.bipush aL_refusesAny_127 (by decide) (by decide) ?_
  refine wall_X5_add aL_refusesAny_129 gl_RL_38 (ok5_add1 (by decide)) ho (Nat.le_of_ble_eq_true rfl) (by decide) (gwL ?_)
  refine Vw.iconst aL_refusesAny_132 (by decide) ?_
  refine Vw.icmp_ne aL_refusesAny_133 (tgt := 234) (by decide) (fun c133 => absurd c133 (by decide)) (fun c133 => ?_)
  refine Vw.ald0 aL_refusesAny_136 ?_
  refine Vw.iconst aL_refusesAny_137 (by decide) ?_
  refine Vw.ild3 aL_refusesAny_138 ?_
  refine Vw.iconst aL_refusesAny_139 (by decide) ?_
  refine Vw.iconst aL_refusesAny_140 (by decide) ?_
  refine wall_X5_add aL_refusesAny_141 gl_RL_38 (ok5_add1 (by decide)) ho (Nat.le_of_ble_eq_true rfl) (by decide) (gwL ?_)
  refine Vw.iconst aL_refusesAny_144 (by decide) ?_
  refine Vw.icmp_ne aL_refusesAny_145 (tgt := 234) (by decide) (fun c145 => absurd c145 (by decide)) (fun c145 => ?_)
  refine Vw.ald0 aL_refusesAny_148 ?_
  refine Vw.iconst aL_refusesAny_149 (by decide) ?_
  refine Vw.iconst aL_refusesAny_150 (by decide) ?_
  refine Vw.ild3 aL_refusesAny_151 ?_
  refine Vw.iconst aL_refusesAny_152 (by decide) ?_
  refine wall_X5_add aL_refusesAny_153 gl_RL_38 (ok5_add1 (by decide)) ho (Nat.le_of_ble_eq_true rfl) (by decide) (gwL ?_)
  refine Vw.iconst aL_refusesAny_156 (by decide) ?_
  refine Vw.icmp_ne aL_refusesAny_157 (tgt := 234) (by decide) (fun c157 => absurd c157 (by decide)) (fun c157 => ?_)
  refine Vw.ald0 aL_refusesAny_160 ?_
  refine Vw.iconst aL_refusesAny_161 (by decide) ?_
  refine Vw.iconst aL_refusesAny_162 (by decide) ?_
  refine Vw.iconst aL_refusesAny_163 (by decide) ?_
  refine Vw.iconst aL_refusesAny_164 (by decide) ?_
  refine wall_X5_add aL_refusesAny_165 gl_RL_38 (ok5_add2 (by decide) (Or.inl (by decide))) ho (Nat.le_of_ble_eq_true rfl) (by decide) (gwL ?_)
  refine Vw.bipush aL_refusesAny_168 (by decide) (by decide) ?_
  refine Vw.icmp_ne aL_refusesAny_170 (tgt := 234) (by decide) (fun c170 => absurd c170 (by decide)) (fun c170 => ?_)
  refine Vw.ald0 aL_refusesAny_173 ?_
  refine Vw.iconst aL_refusesAny_174 (by decide) ?_
  refine Vw.iconst aL_refusesAny_175 (by decide) ?_
  refine Vw.iconst aL_refusesAny_176 (by decide) ?_
  refine Vw.ild1 aL_refusesAny_177 ?_
  refine Vw.if_ne aL_refusesAny_178 (tgt := 185) (by decide) (fun c178 => absurd c178 (by decide)) (fun c178 => ?_)
  refine Vw.iconst aL_refusesAny_181 (by decide) ?_
  refine Vw.goto aL_refusesAny_182 (tgt := 187) (by decide) ?_
  refine wall_X5_add aL_refusesAny_187 gl_RL_38 (ok5_add2 (by decide) (Or.inr (by decide))) ho (Nat.le_of_ble_eq_true rfl) (by decide) (gwL ?_)
  refine Vw.bipush aL_refusesAny_190 (by decide) (by decide) ?_
  refine Vw.icmp_ne aL_refusesAny_192 (tgt := 234) (by decide) (fun c192 => absurd c192 (by decide)) (fun c192 => ?_)
  refine Vw.ald0 aL_refusesAny_195 ?_
  refine Vw.ild2 aL_refusesAny_196 ?_
  refine Vw.iconst aL_refusesAny_197 (by decide) ?_
  refine wall_X5_turn aL_refusesAny_198 gl_RL_41 (ok5_turn1 (by decide)) ho (Nat.le_of_ble_eq_true rfl) (by decide) (gwL ?_)
  refine Vw.iconst aL_refusesAny_201 (by decide) ?_
  refine Vw.icmp_ne aL_refusesAny_202 (tgt := 234) (by decide) (fun c202 => absurd c202 (by decide)) (fun c202 => ?_)
  refine Vw.ald0 aL_refusesAny_205 ?_
  refine Vw.iconst aL_refusesAny_206 (by decide) ?_
  refine Vw.ild1 aL_refusesAny_207 ?_
  refine Vw.if_ne aL_refusesAny_208 (tgt := 215) (by decide) (fun c208 => absurd c208 (by decide)) (fun c208 => ?_)
  refine Vw.iconst aL_refusesAny_211 (by decide) ?_
  refine Vw.goto aL_refusesAny_212 (tgt := 217) (by decide) ?_
  refine wall_X5_turn aL_refusesAny_217 gl_RL_41 (ok5_turn2 (by decide) (by decide)) ho (Nat.le_of_ble_eq_true rfl) (by decide) (gwL ?_)
  refine Vw.bipush aL_refusesAny_220 (by decide) (by decide) ?_
  refine Vw.icmp_ne aL_refusesAny_222 (tgt := 234) (by decide) (fun c222 => absurd c222 (by decide)) (fun c222 => ?_)
  refine Vw.ald0 aL_refusesAny_225 ?_
  refine Vw.ild2 aL_refusesAny_226 ?_
  refine wall_X5_renew aL_refusesAny_227 gl_RL_44 (ok5_renew1 (by decide)) ho (Nat.le_of_ble_eq_true rfl) (by decide) (gwL ?_)
  refine Vw.iconst aL_refusesAny_230 (by decide) ?_
  refine Vw.icmp_eq aL_refusesAny_231 (tgt := 236) (by decide) (fun c231 => ?_) (fun c231 => absurd c231 (by decide))
  refine Vw.ald0 aL_refusesAny_236 ?_
  refine Vw.ild1 aL_refusesAny_237 ?_
  refine Vw.if_ne aL_refusesAny_238 (tgt := 245) (by decide) (fun c238 => absurd c238 (by decide)) (fun c238 => ?_)
  refine Vw.iconst aL_refusesAny_241 (by decide) ?_
  refine Vw.goto aL_refusesAny_242 (tgt := 246) (by decide) ?_
  refine wall_X5_setWay aL_refusesAny_246 gl_RL_47 (ok5_setWay1 (by decide)) ho (Nat.le_of_ble_eq_true rfl) (by decide) (gwL ?_)
  refine Vw.bipush aL_refusesAny_249 (by decide) (by decide) ?_
  refine Vw.icmp_ne aL_refusesAny_251 (tgt := 405) (by decide) (fun c251 => absurd c251 (by decide)) (fun c251 => ?_)
  refine Vw.ald0 aL_refusesAny_254 ?_
  refine Vw.ald0 aL_refusesAny_255 ?_
  refine Vw.iconst aL_refusesAny_256 (by decide) ?_
  refine wall_X5_count aL_refusesAny_257 gl_RL_13 (gt_count4 kh) ho (Nat.le_of_ble_eq_true rfl) (by decide) (gwL ?_)
  refine wall_X5_setWay aL_refusesAny_260 gl_RL_47 (gu_setWay kh (by omega)) ho (Nat.le_of_ble_eq_true rfl) (by decide) (gwP (fun z260 m260 h260 => ?_))
  obtain ⟨hz260, kh⟩ := h260
  obtain ⟨fs, ho⟩ := kh.o
  refine Vw.bipush aL_refusesAny_263 (by decide) (by decide) ?_
  refine Vw.icmp_ne aL_refusesAny_265 (tgt := 405) (by decide) (fun c265 => absurd c265 (by decide)) (fun c265 => ?_)
  refine Vw.ald0 aL_refusesAny_268 ?_
  refine Vw.ild1 aL_refusesAny_269 ?_
  refine Vw.if_ne aL_refusesAny_270 (tgt := 278) (by decide) (fun c270 => absurd c270 (by decide)) (fun c270 => ?_)
  refine Vw.bipush aL_refusesAny_273 (by decide) (by decide) ?_
  refine Vw.goto aL_refusesAny_275 (tgt := 281) (by decide) ?_
  refine wall_X5_setRoom aL_refusesAny_281 gl_RL_50 (ok5_setRoom1 (by decide)) ho (Nat.le_of_ble_eq_true rfl) (by decide) (gwL ?_)
  refine Vw.bipush aL_refusesAny_284 (by decide) (by decide) ?_
  refine Vw.icmp_ne aL_refusesAny_286 (tgt := 405) (by decide) (fun c286 => absurd c286 (by decide)) (fun c286 => ?_)
  refine Vw.ald0 aL_refusesAny_289 ?_
  refine Vw.ald0 aL_refusesAny_290 ?_
  refine Vw.iconst aL_refusesAny_291 (by decide) ?_
  refine wall_X5_count aL_refusesAny_292 gl_RL_13 (gt_count3 kh) ho (Nat.le_of_ble_eq_true rfl) (by decide) (gwL ?_)
  refine wall_X5_setRoom aL_refusesAny_295 gl_RL_50 (gu_setRoom kh) ho (Nat.le_of_ble_eq_true rfl) (by decide) (gwP (fun z295 m295 h295 => ?_))
  obtain ⟨hz295, kh⟩ := h295
  obtain ⟨fs, ho⟩ := kh.o
  refine Vw.bipush aL_refusesAny_298 (by decide) (by decide) ?_
  refine Vw.icmp_ne aL_refusesAny_300 (tgt := 405) (by decide) (fun c300 => absurd c300 (by decide)) (fun c300 => ?_)
  refine Vw.ald0 aL_refusesAny_303 ?_
  refine Vw.ild2 aL_refusesAny_304 ?_
  refine wall_X5_store aL_refusesAny_305 gl_RL_53 (ok5_store1 (by decide)) ho (Nat.le_of_ble_eq_true rfl) (by decide) (gwL ?_)
  refine Vw.iconst aL_refusesAny_308 (by decide) ?_
  refine Vw.icmp_ne aL_refusesAny_309 (tgt := 405) (by decide) (fun c309 => absurd c309 (by decide)) (fun c309 => ?_)
  refine Vw.ald0 aL_refusesAny_312 ?_
  refine Vw.ild4 aL_refusesAny_313 ?_
  refine wall_X5_damage aL_refusesAny_315 gl_RL_56 (gt_damage1 kh (by omega)) ho (Nat.le_of_ble_eq_true rfl) (by decide) (gwL ?_)
  refine Vw.iconst aL_refusesAny_318 (by decide) ?_
  refine Vw.icmp_ne aL_refusesAny_319 (tgt := 405) (by decide) (fun c319 => absurd c319 (by decide)) (fun c319 => ?_)
  refine Vw.ald0 aL_refusesAny_322 ?_
  refine Vw.ild2 aL_refusesAny_323 ?_
  refine Vw.iconst aL_refusesAny_324 (by decide) ?_
  refine wall_X5_cell aL_refusesAny_325 gl_RL_19 (ok5_cell1 (by decide)) ho (Nat.le_of_ble_eq_true rfl) (by decide) (gwL ?_)
  refine Vw.iconst aL_refusesAny_328 (by decide) ?_
  refine Vw.icmp_ne aL_refusesAny_329 (tgt := 405) (by decide) (fun c329 => absurd c329 (by decide)) (fun c329 => ?_)
  refine Vw.ald0 aL_refusesAny_332 ?_
  refine Vw.iconst aL_refusesAny_333 (by decide) ?_
  refine Vw.ild3 aL_refusesAny_334 ?_
  refine wall_X5_cell aL_refusesAny_335 gl_RL_19 (ok5_cell1 (by decide)) ho (Nat.le_of_ble_eq_true rfl) (by decide) (gwL ?_)
  refine Vw.iconst aL_refusesAny_338 (by decide) ?_
  refine Vw.icmp_ne aL_refusesAny_339 (tgt := 405) (by decide) (fun c339 => absurd c339 (by decide)) (fun c339 => ?_)
  refine Vw.ald0 aL_refusesAny_342 ?_
  refine Vw.ild2 aL_refusesAny_343 ?_
  refine Vw.bipush aL_refusesAny_344 (by decide) (by decide) ?_
  refine wall_X5_page aL_refusesAny_346 gl_RL_26 (ok5_page1 (by decide)) ho (Nat.le_of_ble_eq_true rfl) (by decide) (gwL ?_)
  refine Vw.iconst aL_refusesAny_349 (by decide) ?_
  refine Vw.icmp_ne aL_refusesAny_350 (tgt := 405) (by decide) (fun c350 => absurd c350 (by decide)) (fun c350 => ?_)
  refine Vw.ald0 aL_refusesAny_353 ?_
  refine Vw.iconst aL_refusesAny_354 (by decide) ?_
  refine Vw.ild1 aL_refusesAny_355 ?_
  refine Vw.if_ne aL_refusesAny_356 (tgt := 363) (by decide) (fun c356 => absurd c356 (by decide)) (fun c356 => ?_)
  refine Vw.iconst aL_refusesAny_359 (by decide) ?_
  refine Vw.goto aL_refusesAny_360 (tgt := 365) (by decide) ?_
  refine wall_X5_page aL_refusesAny_365 gl_RL_26 (gt_pageM kh) ho (Nat.le_of_ble_eq_true rfl) (by decide) (gwL ?_)
  refine Vw.bipush aL_refusesAny_368 (by decide) (by decide) ?_
  refine Vw.icmp_ne aL_refusesAny_370 (tgt := 405) (by decide) (fun c370 => absurd c370 (by decide)) (fun c370 => ?_)
  refine Vw.ald0 aL_refusesAny_373 ?_
  refine Vw.ild2 aL_refusesAny_374 ?_
  refine Vw.iconst aL_refusesAny_375 (by decide) ?_
  refine wall_X5_stored aL_refusesAny_376 gl_RL_23 (ok5_stored1 (by decide)) ho (Nat.le_of_ble_eq_true rfl) (by decide) (gwL ?_)
  refine Vw.iconst aL_refusesAny_379 (by decide) ?_
  refine Vw.icmp_ne aL_refusesAny_380 (tgt := 405) (by decide) (fun c380 => absurd c380 (by decide)) (fun c380 => ?_)
  refine Vw.ald0 aL_refusesAny_383 ?_
  refine Vw.iconst aL_refusesAny_384 (by decide) ?_
  refine Vw.ild3 aL_refusesAny_385 ?_
  refine wall_X5_stored aL_refusesAny_386 gl_RL_23 (ok5_stored1 (by decide)) ho (Nat.le_of_ble_eq_true rfl) (by decide) (gwL ?_)
  refine Vw.iconst aL_refusesAny_389 (by decide) ?_
  refine Vw.icmp_ne aL_refusesAny_390 (tgt := 405) (by decide) (fun c390 => absurd c390 (by decide)) (fun c390 => ?_)
  refine Vw.ald0 aL_refusesAny_393 ?_
  refine Vw.ild4 aL_refusesAny_394 ?_
  refine Vw.bipush aL_refusesAny_396 (by decide) (by decide) ?_
  refine wall_X5_entry aL_refusesAny_398 gl_RL_29 (gt_entry1 kh (by omega)) ho (Nat.le_of_ble_eq_true rfl) (by decide) (gwL ?_)
  refine Vw.iconst aL_refusesAny_401 (by decide) ?_
  refine Vw.icmp_eq aL_refusesAny_402 (tgt := 407) (by decide) (fun c402 => ?_) (fun c402 => absurd c402 (by decide))
  refine Vw.ald0 aL_refusesAny_407 ?_
  refine Vw.iconst aL_refusesAny_408 (by decide) ?_
  refine wall_X5_count aL_refusesAny_409 gl_RL_13 (gt_count1 kh) ho (Nat.le_of_ble_eq_true rfl) (by decide) (gwL ?_)
  refine Vw.if_le aL_refusesAny_412 (tgt := 477) (by decide) (fun c412 => ?_) (fun c412 => ?_)
  · refine Vw.ald0 aL_refusesAny_477 ?_
    refine Vw.iconst aL_refusesAny_478 (by decide) ?_
    refine Vw.ild4 aL_refusesAny_479 ?_
    refine Vw.iconst aL_refusesAny_481 (by decide) ?_
    refine wall_X5_asOf aL_refusesAny_482 gl_RL_59 (gt_asOf1 kh (by omega)) ho (Nat.le_of_ble_eq_true rfl) (by decide) (gwL ?_)
    refine Vw.iconst aL_refusesAny_485 (by decide) ?_
    refine Vw.icmp_ne aL_refusesAny_486 (tgt := 543) (by decide) (fun c486 => absurd c486 (by decide)) (fun c486 => ?_)
    refine Vw.ald0 aL_refusesAny_489 ?_
    refine Vw.ild2 aL_refusesAny_490 ?_
    refine Vw.bipush aL_refusesAny_491 (by decide) (by decide) ?_
    refine wall_X5_wouldLog aL_refusesAny_493 gl_RL_63 (ok5_would1 (by decide)) ho (Nat.le_of_ble_eq_true rfl) (by decide) (gwL ?_)
    refine Vw.iconst aL_refusesAny_496 (by decide) ?_
    refine Vw.icmp_ne aL_refusesAny_497 (tgt := 543) (by decide) (fun c497 => absurd c497 (by decide)) (fun c497 => ?_)
    refine Vw.ald0 aL_refusesAny_500 ?_
    refine Vw.iconst aL_refusesAny_501 (by decide) ?_
    refine Vw.ild1 aL_refusesAny_502 ?_
    refine Vw.if_ne aL_refusesAny_503 (tgt := 510) (by decide) (fun c503 => absurd c503 (by decide)) (fun c503 => ?_)
    refine Vw.iconst aL_refusesAny_506 (by decide) ?_
    refine Vw.goto aL_refusesAny_507 (tgt := 512) (by decide) ?_
    refine wall_X5_wouldLog aL_refusesAny_512 gl_RL_63 (ok5_would2 (by decide) (by decide)) ho (Nat.le_of_ble_eq_true rfl) (by decide) (gwL ?_)
    refine Vw.bipush aL_refusesAny_515 (by decide) (by decide) ?_
    refine Vw.icmp_ne aL_refusesAny_517 (tgt := 543) (by decide) (fun c517 => absurd c517 (by decide)) (fun c517 => ?_)
    refine Vw.ald0 aL_refusesAny_520 ?_
    refine Vw.ild1 aL_refusesAny_521 ?_
    refine Vw.if_ne aL_refusesAny_522 (tgt := 529) (by decide) (fun c522 => absurd c522 (by decide)) (fun c522 => ?_)
    refine Vw.iconst aL_refusesAny_525 (by decide) ?_
    refine Vw.goto aL_refusesAny_526 (tgt := 531) (by decide) ?_
    refine wall_X5_count aL_refusesAny_531 gl_RL_13 (gt_countM kh) ho (Nat.le_of_ble_eq_true rfl) (by decide) (gwL ?_)
    refine Vw.bipush aL_refusesAny_534 (by decide) (by decide) ?_
    refine Vw.icmp_ne aL_refusesAny_536 (tgt := 543) (by decide) (fun c536 => absurd c536 (by decide)) (fun c536 => ?_)
    refine Vw.iconst aL_refusesAny_539 (by decide) ?_
    refine Vw.goto aL_refusesAny_540 (tgt := 544) (by decide) ?_
    refine Vw.zret aL_refusesAny_544 rfl (by first | decide | omega) (by decide) ?_
    exact ⟨rfl, by omega, kh⟩
  · refine Vw.ald0 aL_refusesAny_415 ?_
    refine Vw.ald0 aL_refusesAny_416 ?_
    refine Vw.iconst aL_refusesAny_417 (by decide) ?_
    refine wall_X5_count aL_refusesAny_418 gl_RL_13 (gt_count0 kh) ho (Nat.le_of_ble_eq_true rfl) (by decide) (gwL ?_)
    refine Vw.iconst aL_refusesAny_421 (by decide) ?_
    refine Vw.isub aL_refusesAny_422 (by omega) ?_
    refine Vw.ild1 aL_refusesAny_423 ?_
    refine Vw.if_ne aL_refusesAny_424 (tgt := 431) (by decide) (fun c424 => absurd c424 (by decide)) (fun c424 => ?_)
    refine Vw.iconst aL_refusesAny_427 (by decide) ?_
    refine Vw.goto aL_refusesAny_428 (tgt := 433) (by decide) ?_
    refine wall_X5_entry aL_refusesAny_433 gl_RL_29 (gt_entryM kh (by omega)) ho (Nat.le_of_ble_eq_true rfl) (by decide) (gwL ?_)
    refine Vw.bipush aL_refusesAny_436 (by decide) (by decide) ?_
    refine Vw.icmp_ne aL_refusesAny_438 (tgt := 475) (by decide) (fun c438 => absurd c438 (by decide)) (fun c438 => ?_)
    refine Vw.ald0 aL_refusesAny_441 ?_
    refine Vw.ild2 aL_refusesAny_442 ?_
    refine Vw.ald0 aL_refusesAny_443 ?_
    refine Vw.iconst aL_refusesAny_444 (by decide) ?_
    refine wall_X5_count aL_refusesAny_445 gl_RL_13 (gt_count0 kh) ho (Nat.le_of_ble_eq_true rfl) (by decide) (gwL ?_)
    refine Vw.iconst aL_refusesAny_448 (by decide) ?_
    refine Vw.isub aL_refusesAny_449 (by omega) ?_
    refine Vw.iconst aL_refusesAny_450 (by decide) ?_
    refine wall_X5_asOf aL_refusesAny_451 gl_RL_59 (gt_asOf1 kh (by omega)) ho (Nat.le_of_ble_eq_true rfl) (by decide) (gwL ?_)
    refine Vw.iconst aL_refusesAny_454 (by decide) ?_
    refine Vw.icmp_ne aL_refusesAny_455 (tgt := 475) (by decide) (fun c455 => absurd c455 (by decide)) (fun c455 => ?_)
    refine Vw.ald0 aL_refusesAny_458 ?_
    refine Vw.iconst aL_refusesAny_459 (by decide) ?_
    refine Vw.ald0 aL_refusesAny_460 ?_
    refine Vw.iconst aL_refusesAny_461 (by decide) ?_
    refine wall_X5_count aL_refusesAny_462 gl_RL_13 (gt_count0 kh) ho (Nat.le_of_ble_eq_true rfl) (by decide) (gwL ?_)
    refine Vw.iconst aL_refusesAny_465 (by decide) ?_
    refine Vw.isub aL_refusesAny_466 (by omega) ?_
    refine Vw.ild3 aL_refusesAny_467 ?_
    refine wall_X5_asOf aL_refusesAny_468 gl_RL_59 (gt_asOf1 kh (by omega)) ho (Nat.le_of_ble_eq_true rfl) (by decide) (gwL ?_)
    refine Vw.iconst aL_refusesAny_471 (by decide) ?_
    refine Vw.icmp_eq aL_refusesAny_472 (tgt := 477) (by decide) (fun c472 => ?_) (fun c472 => absurd c472 (by decide))
    refine Vw.ald0 aL_refusesAny_477 ?_
    refine Vw.iconst aL_refusesAny_478 (by decide) ?_
    refine Vw.ild4 aL_refusesAny_479 ?_
    refine Vw.iconst aL_refusesAny_481 (by decide) ?_
    refine wall_X5_asOf aL_refusesAny_482 gl_RL_59 (gt_asOf1 kh (by omega)) ho (Nat.le_of_ble_eq_true rfl) (by decide) (gwL ?_)
    refine Vw.iconst aL_refusesAny_485 (by decide) ?_
    refine Vw.icmp_ne aL_refusesAny_486 (tgt := 543) (by decide) (fun c486 => absurd c486 (by decide)) (fun c486 => ?_)
    refine Vw.ald0 aL_refusesAny_489 ?_
    refine Vw.ild2 aL_refusesAny_490 ?_
    refine Vw.bipush aL_refusesAny_491 (by decide) (by decide) ?_
    refine wall_X5_wouldLog aL_refusesAny_493 gl_RL_63 (ok5_would1 (by decide)) ho (Nat.le_of_ble_eq_true rfl) (by decide) (gwL ?_)
    refine Vw.iconst aL_refusesAny_496 (by decide) ?_
    refine Vw.icmp_ne aL_refusesAny_497 (tgt := 543) (by decide) (fun c497 => absurd c497 (by decide)) (fun c497 => ?_)
    refine Vw.ald0 aL_refusesAny_500 ?_
    refine Vw.iconst aL_refusesAny_501 (by decide) ?_
    refine Vw.ild1 aL_refusesAny_502 ?_
    refine Vw.if_ne aL_refusesAny_503 (tgt := 510) (by decide) (fun c503 => absurd c503 (by decide)) (fun c503 => ?_)
    refine Vw.iconst aL_refusesAny_506 (by decide) ?_
    refine Vw.goto aL_refusesAny_507 (tgt := 512) (by decide) ?_
    refine wall_X5_wouldLog aL_refusesAny_512 gl_RL_63 (ok5_would2 (by decide) (by decide)) ho (Nat.le_of_ble_eq_true rfl) (by decide) (gwL ?_)
    refine Vw.bipush aL_refusesAny_515 (by decide) (by decide) ?_
    refine Vw.icmp_ne aL_refusesAny_517 (tgt := 543) (by decide) (fun c517 => absurd c517 (by decide)) (fun c517 => ?_)
    refine Vw.ald0 aL_refusesAny_520 ?_
    refine Vw.ild1 aL_refusesAny_521 ?_
    refine Vw.if_ne aL_refusesAny_522 (tgt := 529) (by decide) (fun c522 => absurd c522 (by decide)) (fun c522 => ?_)
    refine Vw.iconst aL_refusesAny_525 (by decide) ?_
    refine Vw.goto aL_refusesAny_526 (tgt := 531) (by decide) ?_
    refine wall_X5_count aL_refusesAny_531 gl_RL_13 (gt_countM kh) ho (Nat.le_of_ble_eq_true rfl) (by decide) (gwL ?_)
    refine Vw.bipush aL_refusesAny_534 (by decide) (by decide) ?_
    refine Vw.icmp_ne aL_refusesAny_536 (tgt := 543) (by decide) (fun c536 => absurd c536 (by decide)) (fun c536 => ?_)
    refine Vw.iconst aL_refusesAny_539 (by decide) ?_
    refine Vw.goto aL_refusesAny_540 (tgt := 544) (by decide) ?_
    refine Vw.zret aL_refusesAny_544 rfl (by first | decide | omega) (by decide) ?_
    exact ⟨rfl, by omega, kh⟩
theorem okw_refusesAny1 (kh : KH m X Z t0 mb C s hs c sv ish tx ln) : OkW G kL_refusesAny 7 [wr (some X), wi 1] sz m 60 500 (refP X Z t0 mb C s hs c sv ish tx ln sz) := by
  obtain ⟨fs, ho⟩ := kh.o
  have hI := kh.inv.num
  refine OkW.body [some (wr (some X)), some (wi 1), none, none, none] rfl (Nat.le_of_ble_eq_true rfl) (by decide) ?_
  refine Vw.ild1 aL_refusesAny_0 ?_
  refine Vw.if_ne aL_refusesAny_1 (tgt := 8) (by decide) (fun c1 => ?_) (fun c1 => absurd c1 (by decide))
  refine Vw.bipush aL_refusesAny_8 (by decide) (by decide) ?_
  refine Vw.ist2 aL_refusesAny_10 rfl ?_
  refine Vw.ild1 aL_refusesAny_11 ?_
  refine Vw.if_ne aL_refusesAny_12 (tgt := 19) (by decide) (fun c12 => ?_) (fun c12 => absurd c12 (by decide))
  refine Vw.bipush aL_refusesAny_19 (by decide) (by decide) ?_
  refine Vw.ist3 aL_refusesAny_21 rfl ?_
  refine Vw.ild1 aL_refusesAny_22 ?_
  refine Vw.if_ne aL_refusesAny_23 (tgt := 42) (by decide) (fun c23 => ?_) (fun c23 => absurd c23 (by decide))
  refine Vw.ald0 aL_refusesAny_42 ?_
  refine Vw.iconst aL_refusesAny_43 (by decide) ?_
  refine wall_X5_count aL_refusesAny_44 gl_RL_13 (gt_count0 kh) ho (Nat.le_of_ble_eq_true rfl) (by decide) (gwL ?_)
  refine Vw.ist4 aL_refusesAny_47 rfl ?_
  refine Vw.ald0 aL_refusesAny_49 ?_
  refine Vw.ild2 aL_refusesAny_50 ?_
  refine Vw.iconst aL_refusesAny_51 (by decide) ?_
  refine Vw.iconst aL_refusesAny_52 (by decide) ?_
  refine Vw.bipush aL_refusesAny_53 (by decide) (by decide) ?_
  refine wall_X5_fill aL_refusesAny_55 gl_RL_32 (ok5_fill1 (by decide)) ho (Nat.le_of_ble_eq_true rfl) (by decide) (gwL ?_)
  refine Vw.iconst aL_refusesAny_58 (by decide) ?_
  refine Vw.icmp_ne aL_refusesAny_59 (tgt := 234) (by decide) (fun c59 => absurd c59 (by decide)) (fun c59 => ?_)
  refine Vw.ald0 aL_refusesAny_62 ?_
  refine Vw.iconst aL_refusesAny_63 (by decide) ?_
  refine Vw.ild3 aL_refusesAny_64 ?_
  refine Vw.iconst aL_refusesAny_65 (by decide) ?_
  refine Vw.bipush aL_refusesAny_66 (by decide) (by decide) ?_
  refine wall_X5_fill aL_refusesAny_68 gl_RL_32 (ok5_fill1 (by decide)) ho (Nat.le_of_ble_eq_true rfl) (by decide) (gwL ?_)
  refine Vw.iconst aL_refusesAny_71 (by decide) ?_
  refine Vw.icmp_ne aL_refusesAny_72 (tgt := 234) (by decide) (fun c72 => absurd c72 (by decide)) (fun c72 => ?_)
  refine Vw.ald0 aL_refusesAny_75 ?_
  refine Vw.iconst aL_refusesAny_76 (by decide) ?_
  refine Vw.iconst aL_refusesAny_77 (by decide) ?_
  refine Vw.ild3 aL_refusesAny_78 ?_
  refine Vw.bipush aL_refusesAny_79 (by decide) (by decide) ?_
  refine wall_X5_fill aL_refusesAny_81 gl_RL_32 (ok5_fill1 (by decide)) ho (Nat.le_of_ble_eq_true rfl) (by decide) (gwL ?_)
  refine Vw.iconst aL_refusesAny_84 (by decide) ?_
  refine Vw.icmp_ne aL_refusesAny_85 (tgt := 234) (by decide) (fun c85 => absurd c85 (by decide)) (fun c85 => ?_)
  refine Vw.ald0 aL_refusesAny_88 ?_
  refine Vw.iconst aL_refusesAny_89 (by decide) ?_
  refine Vw.iconst aL_refusesAny_90 (by decide) ?_
  refine Vw.iconst aL_refusesAny_91 (by decide) ?_
  refine Vw.iconst aL_refusesAny_92 (by decide) ?_
  refine wall_X5_fill aL_refusesAny_93 gl_RL_32 (ok5_fill2 (by decide) (Or.inl (by decide))) ho (Nat.le_of_ble_eq_true rfl) (by decide) (gwL ?_)
  refine Vw.bipush aL_refusesAny_96 (by decide) (by decide) ?_
  refine Vw.icmp_ne aL_refusesAny_98 (tgt := 234) (by decide) (fun c98 => absurd c98 (by decide)) (fun c98 => ?_)
  refine Vw.ald0 aL_refusesAny_101 ?_
  refine Vw.iconst aL_refusesAny_102 (by decide) ?_
  refine Vw.iconst aL_refusesAny_103 (by decide) ?_
  refine Vw.iconst aL_refusesAny_104 (by decide) ?_
  refine Vw.ild1 aL_refusesAny_105 ?_
  refine Vw.if_ne aL_refusesAny_106 (tgt := 113) (by decide) (fun c106 => ?_) (fun c106 => absurd c106 (by decide))
  refine Vw.bipush aL_refusesAny_113 (by decide) (by decide) ?_
  refine wall_X5_fill aL_refusesAny_115 gl_RL_32 (ok5_fill2 (by decide) (Or.inr (by decide))) ho (Nat.le_of_ble_eq_true rfl) (by decide) (gwL ?_)
  refine Vw.bipush aL_refusesAny_118 (by decide) (by decide) ?_
  refine Vw.icmp_ne aL_refusesAny_120 (tgt := 234) (by decide) (fun c120 => absurd c120 (by decide)) (fun c120 => ?_)
  refine Vw.ald0 aL_refusesAny_123 ?_
  refine Vw.ild2 aL_refusesAny_124 ?_
  refine Vw.iconst aL_refusesAny_125 (by decide) ?_
  refine Vw.iconst aL_refusesAny_126 (by decide) ?_
  refine Vw.bipush aL_refusesAny_127 (by decide) (by decide) ?_
  refine wall_X5_add aL_refusesAny_129 gl_RL_38 (ok5_add1 (by decide)) ho (Nat.le_of_ble_eq_true rfl) (by decide) (gwL ?_)
  refine Vw.iconst aL_refusesAny_132 (by decide) ?_
  refine Vw.icmp_ne aL_refusesAny_133 (tgt := 234) (by decide) (fun c133 => absurd c133 (by decide)) (fun c133 => ?_)
  refine Vw.ald0 aL_refusesAny_136 ?_
  refine Vw.iconst aL_refusesAny_137 (by decide) ?_
  refine Vw.ild3 aL_refusesAny_138 ?_
  refine Vw.iconst aL_refusesAny_139 (by decide) ?_
  refine Vw.iconst aL_refusesAny_140 (by decide) ?_
  refine wall_X5_add aL_refusesAny_141 gl_RL_38 (ok5_add1 (by decide)) ho (Nat.le_of_ble_eq_true rfl) (by decide) (gwL ?_)
  refine Vw.iconst aL_refusesAny_144 (by decide) ?_
  refine Vw.icmp_ne aL_refusesAny_145 (tgt := 234) (by decide) (fun c145 => absurd c145 (by decide)) (fun c145 => ?_)
  refine Vw.ald0 aL_refusesAny_148 ?_
  refine Vw.iconst aL_refusesAny_149 (by decide) ?_
  refine Vw.iconst aL_refusesAny_150 (by decide) ?_
  refine Vw.ild3 aL_refusesAny_151 ?_
  refine Vw.iconst aL_refusesAny_152 (by decide) ?_
  refine wall_X5_add aL_refusesAny_153 gl_RL_38 (ok5_add1 (by decide)) ho (Nat.le_of_ble_eq_true rfl) (by decide) (gwL ?_)
  refine Vw.iconst aL_refusesAny_156 (by decide) ?_
  refine Vw.icmp_ne aL_refusesAny_157 (tgt := 234) (by decide) (fun c157 => absurd c157 (by decide)) (fun c157 => ?_)
  refine Vw.ald0 aL_refusesAny_160 ?_
  refine Vw.iconst aL_refusesAny_161 (by decide) ?_
  refine Vw.iconst aL_refusesAny_162 (by decide) ?_
  refine Vw.iconst aL_refusesAny_163 (by decide) ?_
  refine Vw.iconst aL_refusesAny_164 (by decide) ?_
  refine wall_X5_add aL_refusesAny_165 gl_RL_38 (ok5_add2 (by decide) (Or.inl (by decide))) ho (Nat.le_of_ble_eq_true rfl) (by decide) (gwL ?_)
  refine Vw.bipush aL_refusesAny_168 (by decide) (by decide) ?_
  refine Vw.icmp_ne aL_refusesAny_170 (tgt := 234) (by decide) (fun c170 => absurd c170 (by decide)) (fun c170 => ?_)
  refine Vw.ald0 aL_refusesAny_173 ?_
  refine Vw.iconst aL_refusesAny_174 (by decide) ?_
  refine Vw.iconst aL_refusesAny_175 (by decide) ?_
  refine Vw.iconst aL_refusesAny_176 (by decide) ?_
  refine Vw.ild1 aL_refusesAny_177 ?_
  refine Vw.if_ne aL_refusesAny_178 (tgt := 185) (by decide) (fun c178 => ?_) (fun c178 => absurd c178 (by decide))
  refine Vw.bipush aL_refusesAny_185 (by decide) (by decide) ?_
  refine wall_X5_add aL_refusesAny_187 gl_RL_38 (ok5_add2 (by decide) (Or.inr (by decide))) ho (Nat.le_of_ble_eq_true rfl) (by decide) (gwL ?_)
  refine Vw.bipush aL_refusesAny_190 (by decide) (by decide) ?_
  refine Vw.icmp_ne aL_refusesAny_192 (tgt := 234) (by decide) (fun c192 => absurd c192 (by decide)) (fun c192 => ?_)
  refine Vw.ald0 aL_refusesAny_195 ?_
  refine Vw.ild2 aL_refusesAny_196 ?_
  refine Vw.iconst aL_refusesAny_197 (by decide) ?_
  refine wall_X5_turn aL_refusesAny_198 gl_RL_41 (ok5_turn1 (by decide)) ho (Nat.le_of_ble_eq_true rfl) (by decide) (gwL ?_)
  refine Vw.iconst aL_refusesAny_201 (by decide) ?_
  refine Vw.icmp_ne aL_refusesAny_202 (tgt := 234) (by decide) (fun c202 => absurd c202 (by decide)) (fun c202 => ?_)
  refine Vw.ald0 aL_refusesAny_205 ?_
  refine Vw.iconst aL_refusesAny_206 (by decide) ?_
  refine Vw.ild1 aL_refusesAny_207 ?_
  refine Vw.if_ne aL_refusesAny_208 (tgt := 215) (by decide) (fun c208 => ?_) (fun c208 => absurd c208 (by decide))
  refine Vw.bipush aL_refusesAny_215 (by decide) (by decide) ?_
  refine wall_X5_turn aL_refusesAny_217 gl_RL_41 (ok5_turn2 (by decide) (by decide)) ho (Nat.le_of_ble_eq_true rfl) (by decide) (gwL ?_)
  refine Vw.bipush aL_refusesAny_220 (by decide) (by decide) ?_
  refine Vw.icmp_ne aL_refusesAny_222 (tgt := 234) (by decide) (fun c222 => absurd c222 (by decide)) (fun c222 => ?_)
  refine Vw.ald0 aL_refusesAny_225 ?_
  refine Vw.ild2 aL_refusesAny_226 ?_
  refine wall_X5_renew aL_refusesAny_227 gl_RL_44 (ok5_renew1 (by decide)) ho (Nat.le_of_ble_eq_true rfl) (by decide) (gwL ?_)
  refine Vw.iconst aL_refusesAny_230 (by decide) ?_
  refine Vw.icmp_eq aL_refusesAny_231 (tgt := 236) (by decide) (fun c231 => ?_) (fun c231 => absurd c231 (by decide))
  refine Vw.ald0 aL_refusesAny_236 ?_
  refine Vw.ild1 aL_refusesAny_237 ?_
  refine Vw.if_ne aL_refusesAny_238 (tgt := 245) (by decide) (fun c238 => ?_) (fun c238 => absurd c238 (by decide))
  refine Vw.iconst aL_refusesAny_245 (by decide) ?_
  refine wall_X5_setWay aL_refusesAny_246 gl_RL_47 (ok5_setWay1 (by decide)) ho (Nat.le_of_ble_eq_true rfl) (by decide) (gwL ?_)
  refine Vw.bipush aL_refusesAny_249 (by decide) (by decide) ?_
  refine Vw.icmp_ne aL_refusesAny_251 (tgt := 405) (by decide) (fun c251 => absurd c251 (by decide)) (fun c251 => ?_)
  refine Vw.ald0 aL_refusesAny_254 ?_
  refine Vw.ald0 aL_refusesAny_255 ?_
  refine Vw.iconst aL_refusesAny_256 (by decide) ?_
  refine wall_X5_count aL_refusesAny_257 gl_RL_13 (gt_count4 kh) ho (Nat.le_of_ble_eq_true rfl) (by decide) (gwL ?_)
  refine wall_X5_setWay aL_refusesAny_260 gl_RL_47 (gu_setWay kh (by omega)) ho (Nat.le_of_ble_eq_true rfl) (by decide) (gwP (fun z260 m260 h260 => ?_))
  obtain ⟨hz260, kh⟩ := h260
  obtain ⟨fs, ho⟩ := kh.o
  refine Vw.bipush aL_refusesAny_263 (by decide) (by decide) ?_
  refine Vw.icmp_ne aL_refusesAny_265 (tgt := 405) (by decide) (fun c265 => absurd c265 (by decide)) (fun c265 => ?_)
  refine Vw.ald0 aL_refusesAny_268 ?_
  refine Vw.ild1 aL_refusesAny_269 ?_
  refine Vw.if_ne aL_refusesAny_270 (tgt := 278) (by decide) (fun c270 => ?_) (fun c270 => absurd c270 (by decide))
  refine Vw.sipush aL_refusesAny_278 (by decide) (by decide) ?_
  refine wall_X5_setRoom aL_refusesAny_281 gl_RL_50 (ok5_setRoom1 (by decide)) ho (Nat.le_of_ble_eq_true rfl) (by decide) (gwL ?_)
  refine Vw.bipush aL_refusesAny_284 (by decide) (by decide) ?_
  refine Vw.icmp_ne aL_refusesAny_286 (tgt := 405) (by decide) (fun c286 => absurd c286 (by decide)) (fun c286 => ?_)
  refine Vw.ald0 aL_refusesAny_289 ?_
  refine Vw.ald0 aL_refusesAny_290 ?_
  refine Vw.iconst aL_refusesAny_291 (by decide) ?_
  refine wall_X5_count aL_refusesAny_292 gl_RL_13 (gt_count3 kh) ho (Nat.le_of_ble_eq_true rfl) (by decide) (gwL ?_)
  refine wall_X5_setRoom aL_refusesAny_295 gl_RL_50 (gu_setRoom kh) ho (Nat.le_of_ble_eq_true rfl) (by decide) (gwP (fun z295 m295 h295 => ?_))
  obtain ⟨hz295, kh⟩ := h295
  obtain ⟨fs, ho⟩ := kh.o
  refine Vw.bipush aL_refusesAny_298 (by decide) (by decide) ?_
  refine Vw.icmp_ne aL_refusesAny_300 (tgt := 405) (by decide) (fun c300 => absurd c300 (by decide)) (fun c300 => ?_)
  refine Vw.ald0 aL_refusesAny_303 ?_
  refine Vw.ild2 aL_refusesAny_304 ?_
  refine wall_X5_store aL_refusesAny_305 gl_RL_53 (ok5_store1 (by decide)) ho (Nat.le_of_ble_eq_true rfl) (by decide) (gwL ?_)
  refine Vw.iconst aL_refusesAny_308 (by decide) ?_
  refine Vw.icmp_ne aL_refusesAny_309 (tgt := 405) (by decide) (fun c309 => absurd c309 (by decide)) (fun c309 => ?_)
  refine Vw.ald0 aL_refusesAny_312 ?_
  refine Vw.ild4 aL_refusesAny_313 ?_
  refine wall_X5_damage aL_refusesAny_315 gl_RL_56 (gt_damage1 kh (by omega)) ho (Nat.le_of_ble_eq_true rfl) (by decide) (gwL ?_)
  refine Vw.iconst aL_refusesAny_318 (by decide) ?_
  refine Vw.icmp_ne aL_refusesAny_319 (tgt := 405) (by decide) (fun c319 => absurd c319 (by decide)) (fun c319 => ?_)
  refine Vw.ald0 aL_refusesAny_322 ?_
  refine Vw.ild2 aL_refusesAny_323 ?_
  refine Vw.iconst aL_refusesAny_324 (by decide) ?_
  refine wall_X5_cell aL_refusesAny_325 gl_RL_19 (ok5_cell1 (by decide)) ho (Nat.le_of_ble_eq_true rfl) (by decide) (gwL ?_)
  refine Vw.iconst aL_refusesAny_328 (by decide) ?_
  refine Vw.icmp_ne aL_refusesAny_329 (tgt := 405) (by decide) (fun c329 => absurd c329 (by decide)) (fun c329 => ?_)
  refine Vw.ald0 aL_refusesAny_332 ?_
  refine Vw.iconst aL_refusesAny_333 (by decide) ?_
  refine Vw.ild3 aL_refusesAny_334 ?_
  refine wall_X5_cell aL_refusesAny_335 gl_RL_19 (ok5_cell1 (by decide)) ho (Nat.le_of_ble_eq_true rfl) (by decide) (gwL ?_)
  refine Vw.iconst aL_refusesAny_338 (by decide) ?_
  refine Vw.icmp_ne aL_refusesAny_339 (tgt := 405) (by decide) (fun c339 => absurd c339 (by decide)) (fun c339 => ?_)
  refine Vw.ald0 aL_refusesAny_342 ?_
  refine Vw.ild2 aL_refusesAny_343 ?_
  refine Vw.bipush aL_refusesAny_344 (by decide) (by decide) ?_
  refine wall_X5_page aL_refusesAny_346 gl_RL_26 (ok5_page1 (by decide)) ho (Nat.le_of_ble_eq_true rfl) (by decide) (gwL ?_)
  refine Vw.iconst aL_refusesAny_349 (by decide) ?_
  refine Vw.icmp_ne aL_refusesAny_350 (tgt := 405) (by decide) (fun c350 => absurd c350 (by decide)) (fun c350 => ?_)
  refine Vw.ald0 aL_refusesAny_353 ?_
  refine Vw.iconst aL_refusesAny_354 (by decide) ?_
  refine Vw.ild1 aL_refusesAny_355 ?_
  refine Vw.if_ne aL_refusesAny_356 (tgt := 363) (by decide) (fun c356 => ?_) (fun c356 => absurd c356 (by decide))
  refine Vw.bipush aL_refusesAny_363 (by decide) (by decide) ?_
  refine wall_X5_page aL_refusesAny_365 gl_RL_26 (gt_pageO kh) ho (Nat.le_of_ble_eq_true rfl) (by decide) (gwL ?_)
  refine Vw.bipush aL_refusesAny_368 (by decide) (by decide) ?_
  refine Vw.icmp_ne aL_refusesAny_370 (tgt := 405) (by decide) (fun c370 => absurd c370 (by decide)) (fun c370 => ?_)
  refine Vw.ald0 aL_refusesAny_373 ?_
  refine Vw.ild2 aL_refusesAny_374 ?_
  refine Vw.iconst aL_refusesAny_375 (by decide) ?_
  refine wall_X5_stored aL_refusesAny_376 gl_RL_23 (ok5_stored1 (by decide)) ho (Nat.le_of_ble_eq_true rfl) (by decide) (gwL ?_)
  refine Vw.iconst aL_refusesAny_379 (by decide) ?_
  refine Vw.icmp_ne aL_refusesAny_380 (tgt := 405) (by decide) (fun c380 => absurd c380 (by decide)) (fun c380 => ?_)
  refine Vw.ald0 aL_refusesAny_383 ?_
  refine Vw.iconst aL_refusesAny_384 (by decide) ?_
  refine Vw.ild3 aL_refusesAny_385 ?_
  refine wall_X5_stored aL_refusesAny_386 gl_RL_23 (ok5_stored1 (by decide)) ho (Nat.le_of_ble_eq_true rfl) (by decide) (gwL ?_)
  refine Vw.iconst aL_refusesAny_389 (by decide) ?_
  refine Vw.icmp_ne aL_refusesAny_390 (tgt := 405) (by decide) (fun c390 => absurd c390 (by decide)) (fun c390 => ?_)
  refine Vw.ald0 aL_refusesAny_393 ?_
  refine Vw.ild4 aL_refusesAny_394 ?_
  refine Vw.bipush aL_refusesAny_396 (by decide) (by decide) ?_
  refine wall_X5_entry aL_refusesAny_398 gl_RL_29 (gt_entry1 kh (by omega)) ho (Nat.le_of_ble_eq_true rfl) (by decide) (gwL ?_)
  refine Vw.iconst aL_refusesAny_401 (by decide) ?_
  refine Vw.icmp_eq aL_refusesAny_402 (tgt := 407) (by decide) (fun c402 => ?_) (fun c402 => absurd c402 (by decide))
  refine Vw.ald0 aL_refusesAny_407 ?_
  refine Vw.iconst aL_refusesAny_408 (by decide) ?_
  refine wall_X5_count aL_refusesAny_409 gl_RL_13 (gt_count1 kh) ho (Nat.le_of_ble_eq_true rfl) (by decide) (gwL ?_)
  refine Vw.if_le aL_refusesAny_412 (tgt := 477) (by decide) (fun c412 => ?_) (fun c412 => ?_)
  · refine Vw.ald0 aL_refusesAny_477 ?_
    refine Vw.iconst aL_refusesAny_478 (by decide) ?_
    refine Vw.ild4 aL_refusesAny_479 ?_
    refine Vw.iconst aL_refusesAny_481 (by decide) ?_
    refine wall_X5_asOf aL_refusesAny_482 gl_RL_59 (gt_asOf1 kh (by omega)) ho (Nat.le_of_ble_eq_true rfl) (by decide) (gwL ?_)
    refine Vw.iconst aL_refusesAny_485 (by decide) ?_
    refine Vw.icmp_ne aL_refusesAny_486 (tgt := 543) (by decide) (fun c486 => absurd c486 (by decide)) (fun c486 => ?_)
    refine Vw.ald0 aL_refusesAny_489 ?_
    refine Vw.ild2 aL_refusesAny_490 ?_
    refine Vw.bipush aL_refusesAny_491 (by decide) (by decide) ?_
    refine wall_X5_wouldLog aL_refusesAny_493 gl_RL_63 (ok5_would1 (by decide)) ho (Nat.le_of_ble_eq_true rfl) (by decide) (gwL ?_)
    refine Vw.iconst aL_refusesAny_496 (by decide) ?_
    refine Vw.icmp_ne aL_refusesAny_497 (tgt := 543) (by decide) (fun c497 => absurd c497 (by decide)) (fun c497 => ?_)
    refine Vw.ald0 aL_refusesAny_500 ?_
    refine Vw.iconst aL_refusesAny_501 (by decide) ?_
    refine Vw.ild1 aL_refusesAny_502 ?_
    refine Vw.if_ne aL_refusesAny_503 (tgt := 510) (by decide) (fun c503 => ?_) (fun c503 => absurd c503 (by decide))
    refine Vw.bipush aL_refusesAny_510 (by decide) (by decide) ?_
    refine wall_X5_wouldLog aL_refusesAny_512 gl_RL_63 (ok5_would2 (by decide) (by decide)) ho (Nat.le_of_ble_eq_true rfl) (by decide) (gwL ?_)
    refine Vw.bipush aL_refusesAny_515 (by decide) (by decide) ?_
    refine Vw.icmp_ne aL_refusesAny_517 (tgt := 543) (by decide) (fun c517 => absurd c517 (by decide)) (fun c517 => ?_)
    refine Vw.ald0 aL_refusesAny_520 ?_
    refine Vw.ild1 aL_refusesAny_521 ?_
    refine Vw.if_ne aL_refusesAny_522 (tgt := 529) (by decide) (fun c522 => ?_) (fun c522 => absurd c522 (by decide))
    refine Vw.bipush aL_refusesAny_529 (by decide) (by decide) ?_
    refine wall_X5_count aL_refusesAny_531 gl_RL_13 (gt_countO kh) ho (Nat.le_of_ble_eq_true rfl) (by decide) (gwL ?_)
    refine Vw.bipush aL_refusesAny_534 (by decide) (by decide) ?_
    refine Vw.icmp_ne aL_refusesAny_536 (tgt := 543) (by decide) (fun c536 => absurd c536 (by decide)) (fun c536 => ?_)
    refine Vw.iconst aL_refusesAny_539 (by decide) ?_
    refine Vw.goto aL_refusesAny_540 (tgt := 544) (by decide) ?_
    refine Vw.zret aL_refusesAny_544 rfl (by first | decide | omega) (by decide) ?_
    exact ⟨rfl, by omega, kh⟩
  · refine Vw.ald0 aL_refusesAny_415 ?_
    refine Vw.ald0 aL_refusesAny_416 ?_
    refine Vw.iconst aL_refusesAny_417 (by decide) ?_
    refine wall_X5_count aL_refusesAny_418 gl_RL_13 (gt_count0 kh) ho (Nat.le_of_ble_eq_true rfl) (by decide) (gwL ?_)
    refine Vw.iconst aL_refusesAny_421 (by decide) ?_
    refine Vw.isub aL_refusesAny_422 (by omega) ?_
    refine Vw.ild1 aL_refusesAny_423 ?_
    refine Vw.if_ne aL_refusesAny_424 (tgt := 431) (by decide) (fun c424 => ?_) (fun c424 => absurd c424 (by decide))
    refine Vw.bipush aL_refusesAny_431 (by decide) (by decide) ?_
    refine wall_X5_entry aL_refusesAny_433 gl_RL_29 (gt_entryO kh (by omega)) ho (Nat.le_of_ble_eq_true rfl) (by decide) (gwL ?_)
    refine Vw.bipush aL_refusesAny_436 (by decide) (by decide) ?_
    refine Vw.icmp_ne aL_refusesAny_438 (tgt := 475) (by decide) (fun c438 => absurd c438 (by decide)) (fun c438 => ?_)
    refine Vw.ald0 aL_refusesAny_441 ?_
    refine Vw.ild2 aL_refusesAny_442 ?_
    refine Vw.ald0 aL_refusesAny_443 ?_
    refine Vw.iconst aL_refusesAny_444 (by decide) ?_
    refine wall_X5_count aL_refusesAny_445 gl_RL_13 (gt_count0 kh) ho (Nat.le_of_ble_eq_true rfl) (by decide) (gwL ?_)
    refine Vw.iconst aL_refusesAny_448 (by decide) ?_
    refine Vw.isub aL_refusesAny_449 (by omega) ?_
    refine Vw.iconst aL_refusesAny_450 (by decide) ?_
    refine wall_X5_asOf aL_refusesAny_451 gl_RL_59 (gt_asOf1 kh (by omega)) ho (Nat.le_of_ble_eq_true rfl) (by decide) (gwL ?_)
    refine Vw.iconst aL_refusesAny_454 (by decide) ?_
    refine Vw.icmp_ne aL_refusesAny_455 (tgt := 475) (by decide) (fun c455 => absurd c455 (by decide)) (fun c455 => ?_)
    refine Vw.ald0 aL_refusesAny_458 ?_
    refine Vw.iconst aL_refusesAny_459 (by decide) ?_
    refine Vw.ald0 aL_refusesAny_460 ?_
    refine Vw.iconst aL_refusesAny_461 (by decide) ?_
    refine wall_X5_count aL_refusesAny_462 gl_RL_13 (gt_count0 kh) ho (Nat.le_of_ble_eq_true rfl) (by decide) (gwL ?_)
    refine Vw.iconst aL_refusesAny_465 (by decide) ?_
    refine Vw.isub aL_refusesAny_466 (by omega) ?_
    refine Vw.ild3 aL_refusesAny_467 ?_
    refine wall_X5_asOf aL_refusesAny_468 gl_RL_59 (gt_asOf1 kh (by omega)) ho (Nat.le_of_ble_eq_true rfl) (by decide) (gwL ?_)
    refine Vw.iconst aL_refusesAny_471 (by decide) ?_
    refine Vw.icmp_eq aL_refusesAny_472 (tgt := 477) (by decide) (fun c472 => ?_) (fun c472 => absurd c472 (by decide))
    refine Vw.ald0 aL_refusesAny_477 ?_
    refine Vw.iconst aL_refusesAny_478 (by decide) ?_
    refine Vw.ild4 aL_refusesAny_479 ?_
    refine Vw.iconst aL_refusesAny_481 (by decide) ?_
    refine wall_X5_asOf aL_refusesAny_482 gl_RL_59 (gt_asOf1 kh (by omega)) ho (Nat.le_of_ble_eq_true rfl) (by decide) (gwL ?_)
    refine Vw.iconst aL_refusesAny_485 (by decide) ?_
    refine Vw.icmp_ne aL_refusesAny_486 (tgt := 543) (by decide) (fun c486 => absurd c486 (by decide)) (fun c486 => ?_)
    refine Vw.ald0 aL_refusesAny_489 ?_
    refine Vw.ild2 aL_refusesAny_490 ?_
    refine Vw.bipush aL_refusesAny_491 (by decide) (by decide) ?_
    refine wall_X5_wouldLog aL_refusesAny_493 gl_RL_63 (ok5_would1 (by decide)) ho (Nat.le_of_ble_eq_true rfl) (by decide) (gwL ?_)
    refine Vw.iconst aL_refusesAny_496 (by decide) ?_
    refine Vw.icmp_ne aL_refusesAny_497 (tgt := 543) (by decide) (fun c497 => absurd c497 (by decide)) (fun c497 => ?_)
    refine Vw.ald0 aL_refusesAny_500 ?_
    refine Vw.iconst aL_refusesAny_501 (by decide) ?_
    refine Vw.ild1 aL_refusesAny_502 ?_
    refine Vw.if_ne aL_refusesAny_503 (tgt := 510) (by decide) (fun c503 => ?_) (fun c503 => absurd c503 (by decide))
    refine Vw.bipush aL_refusesAny_510 (by decide) (by decide) ?_
    refine wall_X5_wouldLog aL_refusesAny_512 gl_RL_63 (ok5_would2 (by decide) (by decide)) ho (Nat.le_of_ble_eq_true rfl) (by decide) (gwL ?_)
    refine Vw.bipush aL_refusesAny_515 (by decide) (by decide) ?_
    refine Vw.icmp_ne aL_refusesAny_517 (tgt := 543) (by decide) (fun c517 => absurd c517 (by decide)) (fun c517 => ?_)
    refine Vw.ald0 aL_refusesAny_520 ?_
    refine Vw.ild1 aL_refusesAny_521 ?_
    refine Vw.if_ne aL_refusesAny_522 (tgt := 529) (by decide) (fun c522 => ?_) (fun c522 => absurd c522 (by decide))
    refine Vw.bipush aL_refusesAny_529 (by decide) (by decide) ?_
    refine wall_X5_count aL_refusesAny_531 gl_RL_13 (gt_countO kh) ho (Nat.le_of_ble_eq_true rfl) (by decide) (gwL ?_)
    refine Vw.bipush aL_refusesAny_534 (by decide) (by decide) ?_
    refine Vw.icmp_ne aL_refusesAny_536 (tgt := 543) (by decide) (fun c536 => absurd c536 (by decide)) (fun c536 => ?_)
    refine Vw.iconst aL_refusesAny_539 (by decide) ?_
    refine Vw.goto aL_refusesAny_540 (tgt := 544) (by decide) ?_
    refine Vw.zret aL_refusesAny_544 rfl (by first | decide | omega) (by decide) ?_
    exact ⟨rfl, by omega, kh⟩
theorem okw_refused (kh : KH m X Z t0 mb C s hs c sv ish tx ln) : OkW G kL_refused 8 [wr (some X)] sz m 120 1000 (refP X Z t0 mb C s hs c sv ish tx ln sz) := by
  obtain ⟨fs, ho⟩ := kh.o
  have hI := kh.inv.num
  have hsv := kh.svb
  refine OkW.body [some (wr (some X)), none, none, none] rfl (Nat.le_of_ble_eq_true rfl) (by decide) ?_
  refine Vw.ald0 aL_refused_0 ?_
  refine wall_L_seen aL_refused_1 gl_RL_66 (okw_seen kh) (Nat.le_of_ble_eq_true rfl) (by decide) (gwQ (fun z1 m1 h1 => ?_))
  obtain ⟨rfl, rfl⟩ := h1
  refine Vw.lst1 aL_refused_4 rfl ?_
  refine Vw.ald0 aL_refused_5 ?_
  refine Vw.bipush aL_refused_6 (by decide) (by decide) ?_
  refine wall_X5_count aL_refused_8 gl_RL_13 (gt_count12 kh) ho (Nat.le_of_ble_eq_true rfl) (by decide) (gwL ?_)
  refine Vw.ist3 aL_refused_11 rfl ?_
  refine Vw.ald0 aL_refused_12 ?_
  refine Vw.iconst aL_refused_13 (by decide) ?_
  refine wall_L_refusesAny aL_refused_14 gl_RL_70 (okw_refusesAny0 kh) (Nat.le_of_ble_eq_true rfl) (by decide) (gwQ (fun z14 m14 h14 => ?_))
  obtain ⟨hz14, kh⟩ := h14
  obtain ⟨fs, ho⟩ := kh.o
  refine Vw.if_eq aL_refused_17 (tgt := 51) (by decide) (fun c17 => absurd c17 (by decide)) (fun c17 => ?_)
  refine Vw.ald0 aL_refused_20 ?_
  refine Vw.iconst aL_refused_21 (by decide) ?_
  refine wall_L_refusesAny aL_refused_22 gl_RL_70 (okw_refusesAny1 kh) (Nat.le_of_ble_eq_true rfl) (by decide) (gwQ (fun z22 m22 h22 => ?_))
  obtain ⟨hz22, kh⟩ := h22
  obtain ⟨fs, ho⟩ := kh.o
  refine Vw.if_eq aL_refused_25 (tgt := 51) (by decide) (fun c25 => absurd c25 (by decide)) (fun c25 => ?_)
  refine Vw.ald0 aL_refused_28 ?_
  refine wall_L_seen aL_refused_29 gl_RL_66 (okw_seen kh) (Nat.le_of_ble_eq_true rfl) (by decide) (gwQ (fun z29 m29 h29 => ?_))
  obtain ⟨rfl, rfl⟩ := h29
  refine Vw.lld1 aL_refused_32 ?_
  refine Vw.lcmp aL_refused_33 ?_
  refine Vw.if_ne aL_refused_34 (tgt := 51) (by decide) (fun c34 => absurd c34 (fun q => q (lcmpZ_0.mpr rfl))) (fun c34 => ?_)
  refine Vw.ald0 aL_refused_37 ?_
  refine Vw.bipush aL_refused_38 (by decide) (by decide) ?_
  refine wall_X5_count aL_refused_40 gl_RL_13 (gt_count12 kh) ho (Nat.le_of_ble_eq_true rfl) (by decide) (gwL ?_)
  refine Vw.ild3 aL_refused_43 ?_
  refine Vw.icmp_ne aL_refused_44 (tgt := 51) (by decide) (fun c44 => absurd c44 (fun q => q rfl)) (fun c44 => ?_)
  refine Vw.iconst aL_refused_47 (by decide) ?_
  refine Vw.goto aL_refused_48 (tgt := 52) (by decide) ?_
  refine Vw.zret aL_refused_52 rfl (by first | decide | omega) (by decide) ?_
  exact ⟨rfl, by omega, kh⟩
end

