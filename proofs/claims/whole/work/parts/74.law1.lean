-- the law's loop
section
variable {G : GX} {Qf : QF} {X t0 b L : Nat} {xs : Int → Int}
theorem CP.mono {M : Mem} {C D : Int} (h : CP M X t0 C) (e : C ≤ D ∧ D ≤ 20000) : CP M X t0 D := by
  obtain ⟨s, pa, sv, sh, ish, tx, ln, sp, cl, bf, mk, st, M0, k, hM⟩ := h
  exact ⟨s, pa, sv, sh, ish, tx, ln, sp, cl, bf, mk, st, M0, k.mono e, hM⟩
theorem cpO {M : Mem} {C : Int} (h : CP M X t0 C) : ∃ fs, M X = obj 5 fs := by
  obtain ⟨s, pa, sv, sh, ish, tx, ln, sp, cl, bf, mk, st, M0, ⟨g, hh, c, p, -⟩, -⟩ := h
  exact ⟨_, p.1.1⟩
theorem law_loop (hG : G.2.2.2 = t0) (hb : b < G.2.2.1 ∧ G.2.2.1 ≤ X ∧ b ≠ t0) (hL : L ≤ 2560) (hend : ∀ (sz : Nat) (m : Mem) (k q : Nat) (L1 : List (Option AV)), k ≤ 600000 → q ≤ 7302250 → V G kL_law room_1 Qf 782 L1 [.inl 1] sz m k q) : ∀ (n t : Nat) (i : Int) (M : Mem) (sz k q : Nat), (L : Int) - i < 5 * n → i = 5 * t → t ≤ 512 → CP M X t0 (21 * t) → M b = fiar L xs → X + 166 ≤ sz → k ≤ 166 + 107 * t → q ≤ 15400 + 1118 * t → V G kL_law room_1 Qf 18 [some (.inr (some b)), some (.inr (some X)), some (.inr (some (X + 157))), some (.inl i)] [] sz M k q := by
  intro n
  induction n with
  | zero =>
    intro t i M sz k q hn hi ht hcp hbs hsz hk hq
    refine V.ild3 aL_law_18 ?_
    refine V.ald0 aL_law_19 ?_
    refine V.alenF aL_law_20 hbs ⟨by omega, by omega⟩ ?_
    refine V.iconst aL_law_21 (by decide) ?_
    refine V.isub aL_law_22 (by omega) ?_
    refine V.icmp_gt aL_law_23 (tgt := 781) (by decide) (fun c23 => ?_) (fun c23 => ?_)
    · refine V.iconst aL_law_781 (by decide) ?_
      exact hend _ _ _ _ _ (by omega) (by omega)
    · exfalso
      omega
  | succ n ih =>
    intro t i M sz k q hn hi ht hcp hbs hsz hk hq
    obtain ⟨fsX, hX⟩ := cpO hcp
    have hC : 21 * (t : Int) + 61 ≤ 20000 := by omega
    refine V.ild3 aL_law_18 ?_
    refine V.ald0 aL_law_19 ?_
    refine V.alenF aL_law_20 hbs ⟨by omega, by omega⟩ ?_
    refine V.iconst aL_law_21 (by decide) ?_
    refine V.isub aL_law_22 (by omega) ?_
    refine V.icmp_gt aL_law_23 (tgt := 781) (by decide) (fun c23 => ?_) (fun c23 => ?_)
    · refine V.iconst aL_law_781 (by decide) ?_
      exact hend _ _ _ _ _ (by omega) (by omega)
    · have ht2 : t + 1 ≤ 512 := by omega
      refine V.ald0 aL_law_26 ?_
      refine V.ild3 aL_law_27 ?_
      refine V.fald (nn := L) (f := xs) aL_law_28 (by assumption) (by omega) (by omega) ?_
      refine V.bipush aL_law_29 (by decide) (by decide) ?_
      refine V.iand31 aL_law_31 ?_
      refine V.tsw25 aL_law_32 (t0 := 148) (t1 := 201) (t2 := 254) (t3 := 287) (t4 := 310) (t5 := 323) (t6 := 346) (t7 := 369) (t8 := 382) (t9 := 405) (t10 := 418) (t11 := 441) (t12 := 454) (t13 := 479) (t14 := 492) (t15 := 505) (t16 := 518) (t17 := 531) (t18 := 564) (t19 := 597) (t20 := 630) (t21 := 663) (t22 := 706) (t23 := 739) (t24 := 752) (t25 := 775) (by decide) (by decide) (by decide) (by decide) (by decide) (by decide) (by decide) (by decide) (by decide) (by decide) (by decide) (by decide) (by decide) (by decide) (by decide) (by decide) (by decide) (by decide) (by decide) (by decide) (by decide) (by decide) (by decide) (by decide) (by decide) (by decide) (fun c32 => ?_) (fun c32 => ?_) (fun c32 => ?_) (fun c32 => ?_) (fun c32 => ?_) (fun c32 => ?_) (fun c32 => ?_) (fun c32 => ?_) (fun c32 => ?_) (fun c32 => ?_) (fun c32 => ?_) (fun c32 => ?_) (fun c32 => ?_) (fun c32 => ?_) (fun c32 => ?_) (fun c32 => ?_) (fun c32 => ?_) (fun c32 => ?_) (fun c32 => ?_) (fun c32 => ?_) (fun c32 => ?_) (fun c32 => ?_) (fun c32 => ?_) (fun c32 => ?_) (fun c32 => ?_) (fun c32 => ?_)
      · refine V.ald1 aL_law_148 ?_
        refine V.ald0 aL_law_149 ?_
        refine V.ild3 aL_law_150 ?_
        refine V.iconst aL_law_151 (by decide) ?_
        refine V.iadd aL_law_152 (by omega) ?_
        refine V.fald (nn := L) (f := xs) aL_law_153 (by assumption) (by omega) (by omega) ?_
        refine V.ald0 aL_law_154 ?_
        refine V.ild3 aL_law_155 ?_
        refine V.iconst aL_law_156 (by decide) ?_
        refine V.iadd aL_law_157 (by omega) ?_
        refine V.fald (nn := L) (f := xs) aL_law_158 (by assumption) (by omega) (by omega) ?_
        refine V.ald0 aL_law_159 ?_
        refine V.ild3 aL_law_160 ?_
        refine V.iconst aL_law_161 (by decide) ?_
        refine V.iadd aL_law_162 (by omega) ?_
        refine V.fald (nn := L) (f := xs) aL_law_163 (by assumption) (by omega) (by omega) ?_
        refine V.ald0 aL_law_164 ?_
        refine V.ild3 aL_law_165 ?_
        refine V.iconst aL_law_166 (by decide) ?_
        refine V.iadd aL_law_167 (by omega) ?_
        refine V.fald (nn := L) (f := xs) aL_law_168 (by assumption) (by omega) (by omega) ?_
        obtain ⟨ans, d, mc, ms, Mid, ⟨hd1, hd2, hd3⟩, okA, okB⟩ := pair_fill (G := G) (sz := sz) (r := xs (i + 1)) (a := xs (i + 2)) (e := xs (i + 3)) (v := xs (i + 4)) hcp hC hG hsz hb
        refine call_X5_fill aL_law_169 gl_RL_13 okA hX (Nat.le_of_ble_eq_true rfl) ⟨⟨by show _ ≤ (11 : Nat); omega, by show _ ≤ (404 : Nat); omega⟩, by show _ ≤ (600000 : Nat); omega, by show _ ≤ (7302250 : Nat); omega⟩ (fun r169 z169 m169 h169 => ?_)
        obtain ⟨rfl, hz169, hmid, hb169⟩ := h169
        obtain ⟨⟨fsB, hXB⟩, okC⟩ := okB z169 m169 hmid
        have hbs2 : m169 b = fiar L xs := hb169.trans hbs
        refine V.ald2 aL_law_172 ?_
        refine V.ald0 aL_law_173 ?_
        refine V.ild3 aL_law_174 ?_
        refine V.iconst aL_law_175 (by decide) ?_
        refine V.iadd aL_law_176 (by omega) ?_
        refine V.fald (nn := L) (f := xs) aL_law_177 (by assumption) (by omega) (by omega) ?_
        refine V.ald0 aL_law_178 ?_
        refine V.ild3 aL_law_179 ?_
        refine V.iconst aL_law_180 (by decide) ?_
        refine V.iadd aL_law_181 (by omega) ?_
        refine V.fald (nn := L) (f := xs) aL_law_182 (by assumption) (by omega) (by omega) ?_
        refine V.ald0 aL_law_183 ?_
        refine V.ild3 aL_law_184 ?_
        refine V.iconst aL_law_185 (by decide) ?_
        refine V.iadd aL_law_186 (by omega) ?_
        refine V.fald (nn := L) (f := xs) aL_law_187 (by assumption) (by omega) (by omega) ?_
        refine V.ald0 aL_law_188 ?_
        refine V.ild3 aL_law_189 ?_
        refine V.iconst aL_law_190 (by decide) ?_
        refine V.iadd aL_law_191 (by omega) ?_
        refine V.fald (nn := L) (f := xs) aL_law_192 (by assumption) (by omega) (by omega) ?_
        refine call_X6_fill aL_law_193 gl_RL_17 okC hXB (Nat.le_of_ble_eq_true rfl) ⟨⟨by decide, by decide⟩, by show _ ≤ (600000 : Nat); omega, by show _ ≤ (7302250 : Nat); omega⟩ (fun r193 z193 m193 h193 => ?_)
        obtain ⟨rfl, rfl, hcp2, hb193⟩ := h193
        have hgo := ih (t + 1) (i + 5) m193 z193 (k + mc + 0) (q + ms + 0) (by omega) (by omega) ht2 (by rw [show 21 * ((t + 1 : Nat) : Int) = 21 * (t : Int) + 21 by omega]; exact hcp2) (hb193.trans hbs2) (by omega) (by omega) (by omega)
        refine V.icmp_eq aL_law_196 (tgt := 775) (by decide) (fun c196 => ?_) (fun c196 => ?_)
        · refine V.inc3 aL_law_775 (by omega) ?_
          refine V.goto aL_law_778 (tgt := 18) (by decide) ?_
          exact hgo
        · exact absurd rfl c196
      · refine V.ald1 aL_law_201 ?_
        refine V.ald0 aL_law_202 ?_
        refine V.ild3 aL_law_203 ?_
        refine V.iconst aL_law_204 (by decide) ?_
        refine V.iadd aL_law_205 (by omega) ?_
        refine V.fald (nn := L) (f := xs) aL_law_206 (by assumption) (by omega) (by omega) ?_
        refine V.ald0 aL_law_207 ?_
        refine V.ild3 aL_law_208 ?_
        refine V.iconst aL_law_209 (by decide) ?_
        refine V.iadd aL_law_210 (by omega) ?_
        refine V.fald (nn := L) (f := xs) aL_law_211 (by assumption) (by omega) (by omega) ?_
        refine V.ald0 aL_law_212 ?_
        refine V.ild3 aL_law_213 ?_
        refine V.iconst aL_law_214 (by decide) ?_
        refine V.iadd aL_law_215 (by omega) ?_
        refine V.fald (nn := L) (f := xs) aL_law_216 (by assumption) (by omega) (by omega) ?_
        refine V.ald0 aL_law_217 ?_
        refine V.ild3 aL_law_218 ?_
        refine V.iconst aL_law_219 (by decide) ?_
        refine V.iadd aL_law_220 (by omega) ?_
        refine V.fald (nn := L) (f := xs) aL_law_221 (by assumption) (by omega) (by omega) ?_
        obtain ⟨ans, d, mc, ms, Mid, ⟨hd1, hd2, hd3⟩, okA, okB⟩ := pair_add (G := G) (sz := sz) (r := xs (i + 1)) (a := xs (i + 2)) (e := xs (i + 3)) (v := xs (i + 4)) hcp hC hG hsz hb
        refine call_X5_add aL_law_222 gl_RL_18 okA hX (Nat.le_of_ble_eq_true rfl) ⟨⟨by show _ ≤ (11 : Nat); omega, by show _ ≤ (404 : Nat); omega⟩, by show _ ≤ (600000 : Nat); omega, by show _ ≤ (7302250 : Nat); omega⟩ (fun r222 z222 m222 h222 => ?_)
        obtain ⟨rfl, hz222, hmid, hb222⟩ := h222
        obtain ⟨⟨fsB, hXB⟩, okC⟩ := okB z222 m222 hmid
        have hbs2 : m222 b = fiar L xs := hb222.trans hbs
        refine V.ald2 aL_law_225 ?_
        refine V.ald0 aL_law_226 ?_
        refine V.ild3 aL_law_227 ?_
        refine V.iconst aL_law_228 (by decide) ?_
        refine V.iadd aL_law_229 (by omega) ?_
        refine V.fald (nn := L) (f := xs) aL_law_230 (by assumption) (by omega) (by omega) ?_
        refine V.ald0 aL_law_231 ?_
        refine V.ild3 aL_law_232 ?_
        refine V.iconst aL_law_233 (by decide) ?_
        refine V.iadd aL_law_234 (by omega) ?_
        refine V.fald (nn := L) (f := xs) aL_law_235 (by assumption) (by omega) (by omega) ?_
        refine V.ald0 aL_law_236 ?_
        refine V.ild3 aL_law_237 ?_
        refine V.iconst aL_law_238 (by decide) ?_
        refine V.iadd aL_law_239 (by omega) ?_
        refine V.fald (nn := L) (f := xs) aL_law_240 (by assumption) (by omega) (by omega) ?_
        refine V.ald0 aL_law_241 ?_
        refine V.ild3 aL_law_242 ?_
        refine V.iconst aL_law_243 (by decide) ?_
        refine V.iadd aL_law_244 (by omega) ?_
        refine V.fald (nn := L) (f := xs) aL_law_245 (by assumption) (by omega) (by omega) ?_
        refine call_X6_add aL_law_246 gl_RL_21 okC hXB (Nat.le_of_ble_eq_true rfl) ⟨⟨by decide, by decide⟩, by show _ ≤ (600000 : Nat); omega, by show _ ≤ (7302250 : Nat); omega⟩ (fun r246 z246 m246 h246 => ?_)
        obtain ⟨rfl, rfl, hcp2, hb246⟩ := h246
        have hgo := ih (t + 1) (i + 5) m246 z246 (k + mc + 0) (q + ms + 0) (by omega) (by omega) ht2 (by rw [show 21 * ((t + 1 : Nat) : Int) = 21 * (t : Int) + 21 by omega]; exact hcp2) (hb246.trans hbs2) (by omega) (by omega) (by omega)
        refine V.icmp_eq aL_law_249 (tgt := 775) (by decide) (fun c249 => ?_) (fun c249 => ?_)
        · refine V.inc3 aL_law_775 (by omega) ?_
          refine V.goto aL_law_778 (tgt := 18) (by decide) ?_
          exact hgo
        · exact absurd rfl c249
      · refine V.ald1 aL_law_254 ?_
        refine V.ald0 aL_law_255 ?_
        refine V.ild3 aL_law_256 ?_
        refine V.iconst aL_law_257 (by decide) ?_
        refine V.iadd aL_law_258 (by omega) ?_
        refine V.fald (nn := L) (f := xs) aL_law_259 (by assumption) (by omega) (by omega) ?_
        refine V.ald0 aL_law_260 ?_
        refine V.ild3 aL_law_261 ?_
        refine V.iconst aL_law_262 (by decide) ?_
        refine V.iadd aL_law_263 (by omega) ?_
        refine V.fald (nn := L) (f := xs) aL_law_264 (by assumption) (by omega) (by omega) ?_
        obtain ⟨ans, d, mc, ms, Mid, ⟨hd1, hd2, hd3⟩, okA, okB⟩ := pair_turn (G := G) (sz := sz) (r := xs (i + 1)) (v := xs (i + 2)) hcp hC hG hsz hb
        refine call_X5_turn aL_law_265 gl_RL_22 okA hX (Nat.le_of_ble_eq_true rfl) ⟨⟨by show _ ≤ (11 : Nat); omega, by show _ ≤ (404 : Nat); omega⟩, by show _ ≤ (600000 : Nat); omega, by show _ ≤ (7302250 : Nat); omega⟩ (fun r265 z265 m265 h265 => ?_)
        obtain ⟨rfl, hz265, hmid, hb265⟩ := h265
        obtain ⟨⟨fsB, hXB⟩, okC⟩ := okB z265 m265 hmid
        have hbs2 : m265 b = fiar L xs := hb265.trans hbs
        refine V.ald2 aL_law_268 ?_
        refine V.ald0 aL_law_269 ?_
        refine V.ild3 aL_law_270 ?_
        refine V.iconst aL_law_271 (by decide) ?_
        refine V.iadd aL_law_272 (by omega) ?_
        refine V.fald (nn := L) (f := xs) aL_law_273 (by assumption) (by omega) (by omega) ?_
        refine V.ald0 aL_law_274 ?_
        refine V.ild3 aL_law_275 ?_
        refine V.iconst aL_law_276 (by decide) ?_
        refine V.iadd aL_law_277 (by omega) ?_
        refine V.fald (nn := L) (f := xs) aL_law_278 (by assumption) (by omega) (by omega) ?_
        refine call_X6_turn aL_law_279 gl_RL_26 okC hXB (Nat.le_of_ble_eq_true rfl) ⟨⟨by decide, by decide⟩, by show _ ≤ (600000 : Nat); omega, by show _ ≤ (7302250 : Nat); omega⟩ (fun r279 z279 m279 h279 => ?_)
        obtain ⟨rfl, rfl, hcp2, hb279⟩ := h279
        have hgo := ih (t + 1) (i + 5) m279 z279 (k + mc + 0) (q + ms + 0) (by omega) (by omega) ht2 (by rw [show 21 * ((t + 1 : Nat) : Int) = 21 * (t : Int) + 21 by omega]; exact hcp2) (hb279.trans hbs2) (by omega) (by omega) (by omega)
        refine V.icmp_eq aL_law_282 (tgt := 775) (by decide) (fun c282 => ?_) (fun c282 => ?_)
        · refine V.inc3 aL_law_775 (by omega) ?_
          refine V.goto aL_law_778 (tgt := 18) (by decide) ?_
          exact hgo
        · exact absurd rfl c282
      · refine V.ald1 aL_law_287 ?_
        refine V.ald0 aL_law_288 ?_
        refine V.ild3 aL_law_289 ?_
        refine V.iconst aL_law_290 (by decide) ?_
        refine V.iadd aL_law_291 (by omega) ?_
        refine V.fald (nn := L) (f := xs) aL_law_292 (by assumption) (by omega) (by omega) ?_
        obtain ⟨ans, d, mc, ms, Mid, ⟨hd1, hd2, hd3⟩, okA, okB⟩ := pair_renew (G := G) (sz := sz) (r := xs (i + 1)) hcp hC hG hsz hb
        refine call_X5_renew aL_law_293 gl_RL_27 okA hX (Nat.le_of_ble_eq_true rfl) ⟨⟨by show _ ≤ (11 : Nat); omega, by show _ ≤ (404 : Nat); omega⟩, by show _ ≤ (600000 : Nat); omega, by show _ ≤ (7302250 : Nat); omega⟩ (fun r293 z293 m293 h293 => ?_)
        obtain ⟨rfl, hz293, hmid, hb293⟩ := h293
        obtain ⟨⟨fsB, hXB⟩, okC⟩ := okB z293 m293 hmid
        have hbs2 : m293 b = fiar L xs := hb293.trans hbs
        refine V.ald2 aL_law_296 ?_
        refine V.ald0 aL_law_297 ?_
        refine V.ild3 aL_law_298 ?_
        refine V.iconst aL_law_299 (by decide) ?_
        refine V.iadd aL_law_300 (by omega) ?_
        refine V.fald (nn := L) (f := xs) aL_law_301 (by assumption) (by omega) (by omega) ?_
        refine call_X6_renew aL_law_302 gl_RL_31 okC hXB (Nat.le_of_ble_eq_true rfl) ⟨⟨by decide, by decide⟩, by show _ ≤ (600000 : Nat); omega, by show _ ≤ (7302250 : Nat); omega⟩ (fun r302 z302 m302 h302 => ?_)
        obtain ⟨rfl, rfl, hcp2, hb302⟩ := h302
        have hgo := ih (t + 1) (i + 5) m302 z302 (k + mc + 0) (q + ms + 0) (by omega) (by omega) ht2 (by rw [show 21 * ((t + 1 : Nat) : Int) = 21 * (t : Int) + 21 by omega]; exact hcp2) (hb302.trans hbs2) (by omega) (by omega) (by omega)
        refine V.icmp_eq aL_law_305 (tgt := 775) (by decide) (fun c305 => ?_) (fun c305 => ?_)
        · refine V.inc3 aL_law_775 (by omega) ?_
          refine V.goto aL_law_778 (tgt := 18) (by decide) ?_
          exact hgo
        · exact absurd rfl c305
      · refine V.ald1 aL_law_310 ?_
        obtain ⟨ans, d, mc, ms, Mid, ⟨hd1, hd2, hd3⟩, okA, okB⟩ := pair_readOrders (G := G) (sz := sz)  hcp hC hG hsz hb
        refine call_X5_readOrders aL_law_311 gl_RL_32 okA hX (Nat.le_of_ble_eq_true rfl) ⟨⟨by show _ ≤ (11 : Nat); omega, by show _ ≤ (404 : Nat); omega⟩, by show _ ≤ (600000 : Nat); omega, by show _ ≤ (7302250 : Nat); omega⟩ (fun r311 z311 m311 h311 => ?_)
        obtain ⟨rfl, hz311, hmid, hb311⟩ := h311
        obtain ⟨⟨fsB, hXB⟩, okC⟩ := okB z311 m311 hmid
        have hbs2 : m311 b = fiar L xs := hb311.trans hbs
        refine V.ald2 aL_law_314 ?_
        refine call_X6_readOrders aL_law_315 gl_RL_36 okC hXB (Nat.le_of_ble_eq_true rfl) ⟨⟨by decide, by decide⟩, by show _ ≤ (600000 : Nat); omega, by show _ ≤ (7302250 : Nat); omega⟩ (fun r315 z315 m315 h315 => ?_)
        obtain ⟨rfl, rfl, hcp2, hb315⟩ := h315
        have hgo := ih (t + 1) (i + 5) m315 z315 (k + mc + 0) (q + ms + 0) (by omega) (by omega) ht2 (by rw [show 21 * ((t + 1 : Nat) : Int) = 21 * (t : Int) + 21 by omega]; exact hcp2) (hb315.trans hbs2) (by omega) (by omega) (by omega)
        refine V.icmp_eq aL_law_318 (tgt := 775) (by decide) (fun c318 => ?_) (fun c318 => ?_)
        · refine V.inc3 aL_law_775 (by omega) ?_
          refine V.goto aL_law_778 (tgt := 18) (by decide) ?_
          exact hgo
        · exact absurd rfl c318
      · refine V.ald1 aL_law_323 ?_
        refine V.ald0 aL_law_324 ?_
        refine V.ild3 aL_law_325 ?_
        refine V.iconst aL_law_326 (by decide) ?_
        refine V.iadd aL_law_327 (by omega) ?_
        refine V.fald (nn := L) (f := xs) aL_law_328 (by assumption) (by omega) (by omega) ?_
        obtain ⟨ans, d, mc, ms, Mid, ⟨hd1, hd2, hd3⟩, okA, okB⟩ := pair_setWay (G := G) (sz := sz) (w := xs (i + 1)) hcp hC hG hsz hb
        refine call_X5_setWay aL_law_329 gl_RL_37 okA hX (Nat.le_of_ble_eq_true rfl) ⟨⟨by show _ ≤ (11 : Nat); omega, by show _ ≤ (404 : Nat); omega⟩, by show _ ≤ (600000 : Nat); omega, by show _ ≤ (7302250 : Nat); omega⟩ (fun r329 z329 m329 h329 => ?_)
        obtain ⟨rfl, hz329, hmid, hb329⟩ := h329
        obtain ⟨⟨fsB, hXB⟩, okC⟩ := okB z329 m329 hmid
        have hbs2 : m329 b = fiar L xs := hb329.trans hbs
        refine V.ald2 aL_law_332 ?_
        refine V.ald0 aL_law_333 ?_
        refine V.ild3 aL_law_334 ?_
        refine V.iconst aL_law_335 (by decide) ?_
        refine V.iadd aL_law_336 (by omega) ?_
        refine V.fald (nn := L) (f := xs) aL_law_337 (by assumption) (by omega) (by omega) ?_
        refine call_X6_setWay aL_law_338 gl_RL_40 okC hXB (Nat.le_of_ble_eq_true rfl) ⟨⟨by decide, by decide⟩, by show _ ≤ (600000 : Nat); omega, by show _ ≤ (7302250 : Nat); omega⟩ (fun r338 z338 m338 h338 => ?_)
        obtain ⟨rfl, rfl, hcp2, hb338⟩ := h338
        have hgo := ih (t + 1) (i + 5) m338 z338 (k + mc + 0) (q + ms + 0) (by omega) (by omega) ht2 (by rw [show 21 * ((t + 1 : Nat) : Int) = 21 * (t : Int) + 21 by omega]; exact hcp2) (hb338.trans hbs2) (by omega) (by omega) (by omega)
        refine V.icmp_eq aL_law_341 (tgt := 775) (by decide) (fun c341 => ?_) (fun c341 => ?_)
        · refine V.inc3 aL_law_775 (by omega) ?_
          refine V.goto aL_law_778 (tgt := 18) (by decide) ?_
          exact hgo
        · exact absurd rfl c341
      · refine V.ald1 aL_law_346 ?_
        refine V.ald0 aL_law_347 ?_
        refine V.ild3 aL_law_348 ?_
        refine V.iconst aL_law_349 (by decide) ?_
        refine V.iadd aL_law_350 (by omega) ?_
        refine V.fald (nn := L) (f := xs) aL_law_351 (by assumption) (by omega) (by omega) ?_
        obtain ⟨ans, d, mc, ms, Mid, ⟨hd1, hd2, hd3⟩, okA, okB⟩ := pair_setRoom (G := G) (sz := sz) (r := xs (i + 1)) hcp hC hG hsz hb
        refine call_X5_setRoom aL_law_352 gl_RL_41 okA hX (Nat.le_of_ble_eq_true rfl) ⟨⟨by show _ ≤ (11 : Nat); omega, by show _ ≤ (404 : Nat); omega⟩, by show _ ≤ (600000 : Nat); omega, by show _ ≤ (7302250 : Nat); omega⟩ (fun r352 z352 m352 h352 => ?_)
        obtain ⟨rfl, hz352, hmid, hb352⟩ := h352
        obtain ⟨⟨fsB, hXB⟩, okC⟩ := okB z352 m352 hmid
        have hbs2 : m352 b = fiar L xs := hb352.trans hbs
        refine V.ald2 aL_law_355 ?_
        refine V.ald0 aL_law_356 ?_
        refine V.ild3 aL_law_357 ?_
        refine V.iconst aL_law_358 (by decide) ?_
        refine V.iadd aL_law_359 (by omega) ?_
        refine V.fald (nn := L) (f := xs) aL_law_360 (by assumption) (by omega) (by omega) ?_
        refine call_X6_setRoom aL_law_361 gl_RL_44 okC hXB (Nat.le_of_ble_eq_true rfl) ⟨⟨by decide, by decide⟩, by show _ ≤ (600000 : Nat); omega, by show _ ≤ (7302250 : Nat); omega⟩ (fun r361 z361 m361 h361 => ?_)
        obtain ⟨rfl, rfl, hcp2, hb361⟩ := h361
        have hgo := ih (t + 1) (i + 5) m361 z361 (k + mc + 0) (q + ms + 0) (by omega) (by omega) ht2 (by rw [show 21 * ((t + 1 : Nat) : Int) = 21 * (t : Int) + 21 by omega]; exact hcp2) (hb361.trans hbs2) (by omega) (by omega) (by omega)
        refine V.icmp_eq aL_law_364 (tgt := 775) (by decide) (fun c364 => ?_) (fun c364 => ?_)
        · refine V.inc3 aL_law_775 (by omega) ?_
          refine V.goto aL_law_778 (tgt := 18) (by decide) ?_
          exact hgo
        · exact absurd rfl c364
      · refine V.ald1 aL_law_369 ?_
        obtain ⟨ans, d, mc, ms, Mid, ⟨hd1, hd2, hd3⟩, okA, okB⟩ := pair_flush (G := G) (sz := sz)  hcp hC hG hsz hb
        refine call_X5_flush aL_law_370 gl_RL_45 okA hX (Nat.le_of_ble_eq_true rfl) ⟨⟨by show _ ≤ (11 : Nat); omega, by show _ ≤ (404 : Nat); omega⟩, by show _ ≤ (600000 : Nat); omega, by show _ ≤ (7302250 : Nat); omega⟩ (fun r370 z370 m370 h370 => ?_)
        obtain ⟨rfl, hz370, hmid, hb370⟩ := h370
        obtain ⟨⟨fsB, hXB⟩, okC⟩ := okB z370 m370 hmid
        have hbs2 : m370 b = fiar L xs := hb370.trans hbs
        refine V.ald2 aL_law_373 ?_
        refine call_X6_flush aL_law_374 gl_RL_48 okC hXB (Nat.le_of_ble_eq_true rfl) ⟨⟨by decide, by decide⟩, by show _ ≤ (600000 : Nat); omega, by show _ ≤ (7302250 : Nat); omega⟩ (fun r374 z374 m374 h374 => ?_)
        obtain ⟨rfl, rfl, hcp2, hb374⟩ := h374
        have hgo := ih (t + 1) (i + 5) m374 z374 (k + mc + 0) (q + ms + 0) (by omega) (by omega) ht2 (by rw [show 21 * ((t + 1 : Nat) : Int) = 21 * (t : Int) + 21 by omega]; exact hcp2) (hb374.trans hbs2) (by omega) (by omega) (by omega)
        refine V.icmp_eq aL_law_377 (tgt := 775) (by decide) (fun c377 => ?_) (fun c377 => ?_)
        · refine V.inc3 aL_law_775 (by omega) ?_
          refine V.goto aL_law_778 (tgt := 18) (by decide) ?_
          exact hgo
        · exact absurd rfl c377
      · refine V.ald1 aL_law_382 ?_
        refine V.ald0 aL_law_383 ?_
        refine V.ild3 aL_law_384 ?_
        refine V.iconst aL_law_385 (by decide) ?_
        refine V.iadd aL_law_386 (by omega) ?_
        refine V.fald (nn := L) (f := xs) aL_law_387 (by assumption) (by omega) (by omega) ?_
        obtain ⟨ans, d, mc, ms, Mid, ⟨hd1, hd2, hd3⟩, okA, okB⟩ := pair_store (G := G) (sz := sz) (r := xs (i + 1)) hcp hC hG hsz hb
        refine call_X5_store aL_law_388 gl_RL_49 okA hX (Nat.le_of_ble_eq_true rfl) ⟨⟨by show _ ≤ (11 : Nat); omega, by show _ ≤ (404 : Nat); omega⟩, by show _ ≤ (600000 : Nat); omega, by show _ ≤ (7302250 : Nat); omega⟩ (fun r388 z388 m388 h388 => ?_)
        obtain ⟨rfl, hz388, hmid, hb388⟩ := h388
        obtain ⟨⟨fsB, hXB⟩, okC⟩ := okB z388 m388 hmid
        have hbs2 : m388 b = fiar L xs := hb388.trans hbs
        refine V.ald2 aL_law_391 ?_
        refine V.ald0 aL_law_392 ?_
        refine V.ild3 aL_law_393 ?_
        refine V.iconst aL_law_394 (by decide) ?_
        refine V.iadd aL_law_395 (by omega) ?_
        refine V.fald (nn := L) (f := xs) aL_law_396 (by assumption) (by omega) (by omega) ?_
        refine call_X6_store aL_law_397 gl_RL_52 okC hXB (Nat.le_of_ble_eq_true rfl) ⟨⟨by decide, by decide⟩, by show _ ≤ (600000 : Nat); omega, by show _ ≤ (7302250 : Nat); omega⟩ (fun r397 z397 m397 h397 => ?_)
        obtain ⟨rfl, rfl, hcp2, hb397⟩ := h397
        have hgo := ih (t + 1) (i + 5) m397 z397 (k + mc + 0) (q + ms + 0) (by omega) (by omega) ht2 (by rw [show 21 * ((t + 1 : Nat) : Int) = 21 * (t : Int) + 21 by omega]; exact hcp2) (hb397.trans hbs2) (by omega) (by omega) (by omega)
        refine V.icmp_eq aL_law_400 (tgt := 775) (by decide) (fun c400 => ?_) (fun c400 => ?_)
        · refine V.inc3 aL_law_775 (by omega) ?_
          refine V.goto aL_law_778 (tgt := 18) (by decide) ?_
          exact hgo
        · exact absurd rfl c400
      · refine V.ald1 aL_law_405 ?_
        obtain ⟨ans, d, mc, ms, Mid, ⟨hd1, hd2, hd3⟩, okA, okB⟩ := pair_trim (G := G) (sz := sz)  hcp hC hG hsz hb
        refine call_X5_trim aL_law_406 gl_RL_53 okA hX (Nat.le_of_ble_eq_true rfl) ⟨⟨by show _ ≤ (11 : Nat); omega, by show _ ≤ (404 : Nat); omega⟩, by show _ ≤ (600000 : Nat); omega, by show _ ≤ (7302250 : Nat); omega⟩ (fun r406 z406 m406 h406 => ?_)
        obtain ⟨rfl, hz406, hmid, hb406⟩ := h406
        obtain ⟨⟨fsB, hXB⟩, okC⟩ := okB z406 m406 hmid
        have hbs2 : m406 b = fiar L xs := hb406.trans hbs
        refine V.ald2 aL_law_409 ?_
        refine call_X6_trim aL_law_410 gl_RL_56 okC hXB (Nat.le_of_ble_eq_true rfl) ⟨⟨by decide, by decide⟩, by show _ ≤ (600000 : Nat); omega, by show _ ≤ (7302250 : Nat); omega⟩ (fun r410 z410 m410 h410 => ?_)
        obtain ⟨rfl, rfl, hcp2, hb410⟩ := h410
        have hgo := ih (t + 1) (i + 5) m410 z410 (k + mc + 0) (q + ms + 0) (by omega) (by omega) ht2 (by rw [show 21 * ((t + 1 : Nat) : Int) = 21 * (t : Int) + 21 by omega]; exact hcp2) (hb410.trans hbs2) (by omega) (by omega) (by omega)
        refine V.icmp_eq aL_law_413 (tgt := 775) (by decide) (fun c413 => ?_) (fun c413 => ?_)
        · refine V.inc3 aL_law_775 (by omega) ?_
          refine V.goto aL_law_778 (tgt := 18) (by decide) ?_
          exact hgo
        · exact absurd rfl c413
      · refine V.ald1 aL_law_418 ?_
        refine V.ald0 aL_law_419 ?_
        refine V.ild3 aL_law_420 ?_
        refine V.iconst aL_law_421 (by decide) ?_
        refine V.iadd aL_law_422 (by omega) ?_
        refine V.fald (nn := L) (f := xs) aL_law_423 (by assumption) (by omega) (by omega) ?_
        obtain ⟨ans, d, mc, ms, Mid, ⟨hd1, hd2, hd3⟩, okA, okB⟩ := pair_damage (G := G) (sz := sz) (r := xs (i + 1)) hcp hC hG hsz hb
        refine call_X5_damage aL_law_424 gl_RL_57 okA hX (Nat.le_of_ble_eq_true rfl) ⟨⟨by show _ ≤ (11 : Nat); omega, by show _ ≤ (404 : Nat); omega⟩, by show _ ≤ (600000 : Nat); omega, by show _ ≤ (7302250 : Nat); omega⟩ (fun r424 z424 m424 h424 => ?_)
        obtain ⟨rfl, hz424, hmid, hb424⟩ := h424
        obtain ⟨⟨fsB, hXB⟩, okC⟩ := okB z424 m424 hmid
        have hbs2 : m424 b = fiar L xs := hb424.trans hbs
        refine V.ald2 aL_law_427 ?_
        refine V.ald0 aL_law_428 ?_
        refine V.ild3 aL_law_429 ?_
        refine V.iconst aL_law_430 (by decide) ?_
        refine V.iadd aL_law_431 (by omega) ?_
        refine V.fald (nn := L) (f := xs) aL_law_432 (by assumption) (by omega) (by omega) ?_
        refine call_X6_damage aL_law_433 gl_RL_60 okC hXB (Nat.le_of_ble_eq_true rfl) ⟨⟨by decide, by decide⟩, by show _ ≤ (600000 : Nat); omega, by show _ ≤ (7302250 : Nat); omega⟩ (fun r433 z433 m433 h433 => ?_)
        obtain ⟨rfl, rfl, hcp2, hb433⟩ := h433
        have hgo := ih (t + 1) (i + 5) m433 z433 (k + mc + 0) (q + ms + 0) (by omega) (by omega) ht2 (by rw [show 21 * ((t + 1 : Nat) : Int) = 21 * (t : Int) + 21 by omega]; exact hcp2) (hb433.trans hbs2) (by omega) (by omega) (by omega)
        refine V.icmp_eq aL_law_436 (tgt := 775) (by decide) (fun c436 => ?_) (fun c436 => ?_)
        · refine V.inc3 aL_law_775 (by omega) ?_
          refine V.goto aL_law_778 (tgt := 18) (by decide) ?_
          exact hgo
        · exact absurd rfl c436
      · refine V.ald1 aL_law_441 ?_
        obtain ⟨ans, d, mc, ms, Mid, ⟨hd1, hd2, hd3⟩, okA, okB⟩ := pair_crash (G := G) (sz := sz)  hcp hC hG hsz hb
        refine call_X5_crash aL_law_442 gl_RL_61 okA hX (Nat.le_of_ble_eq_true rfl) ⟨⟨by show _ ≤ (11 : Nat); omega, by show _ ≤ (404 : Nat); omega⟩, by show _ ≤ (600000 : Nat); omega, by show _ ≤ (7302250 : Nat); omega⟩ (fun r442 z442 m442 h442 => ?_)
        obtain ⟨rfl, hz442, hmid, hb442⟩ := h442
        obtain ⟨⟨fsB, hXB⟩, okC⟩ := okB z442 m442 hmid
        have hbs2 : m442 b = fiar L xs := hb442.trans hbs
        refine V.ald2 aL_law_445 ?_
        refine call_X6_crash aL_law_446 gl_RL_64 okC hXB (Nat.le_of_ble_eq_true rfl) ⟨⟨by decide, by decide⟩, by show _ ≤ (600000 : Nat); omega, by show _ ≤ (7302250 : Nat); omega⟩ (fun r446 z446 m446 h446 => ?_)
        obtain ⟨rfl, rfl, hcp2, hb446⟩ := h446
        have hgo := ih (t + 1) (i + 5) m446 z446 (k + mc + 0) (q + ms + 0) (by omega) (by omega) ht2 (by rw [show 21 * ((t + 1 : Nat) : Int) = 21 * (t : Int) + 21 by omega]; exact hcp2) (hb446.trans hbs2) (by omega) (by omega) (by omega)
        refine V.icmp_eq aL_law_449 (tgt := 775) (by decide) (fun c449 => ?_) (fun c449 => ?_)
        · refine V.inc3 aL_law_775 (by omega) ?_
          refine V.goto aL_law_778 (tgt := 18) (by decide) ?_
          exact hgo
        · exact absurd rfl c449
      · refine V.ald1 aL_law_454 ?_
        refine V.ald0 aL_law_455 ?_
        refine V.ild3 aL_law_456 ?_
        refine V.iconst aL_law_457 (by decide) ?_
        refine V.iadd aL_law_458 (by omega) ?_
        refine V.fald (nn := L) (f := xs) aL_law_459 (by assumption) (by omega) (by omega) ?_
        refine V.i2c aL_law_460 ?_
        obtain ⟨ans, d, mc, ms, Mid, ⟨hd1, hd2, hd3⟩, okA, okB⟩ := pair_type (G := G) (sz := sz) (ch := xs (i + 1) % 65536) ⟨by omega, by omega⟩ hcp hC hG hsz hb
        refine call_X5_type aL_law_461 gl_RL_65 okA hX (Nat.le_of_ble_eq_true rfl) ⟨⟨by show _ ≤ (11 : Nat); omega, by show _ ≤ (404 : Nat); omega⟩, by show _ ≤ (600000 : Nat); omega, by show _ ≤ (7302250 : Nat); omega⟩ (fun r461 z461 m461 h461 => ?_)
        obtain ⟨rfl, hz461, hmid, hb461⟩ := h461
        obtain ⟨⟨fsB, hXB⟩, okC⟩ := okB z461 m461 hmid
        have hbs2 : m461 b = fiar L xs := hb461.trans hbs
        refine V.ald2 aL_law_464 ?_
        refine V.ald0 aL_law_465 ?_
        refine V.ild3 aL_law_466 ?_
        refine V.iconst aL_law_467 (by decide) ?_
        refine V.iadd aL_law_468 (by omega) ?_
        refine V.fald (nn := L) (f := xs) aL_law_469 (by assumption) (by omega) (by omega) ?_
        refine V.i2c aL_law_470 ?_
        refine call_X6_type aL_law_471 gl_RL_69 okC hXB (Nat.le_of_ble_eq_true rfl) ⟨⟨by decide, by decide⟩, by show _ ≤ (600000 : Nat); omega, by show _ ≤ (7302250 : Nat); omega⟩ (fun r471 z471 m471 h471 => ?_)
        obtain ⟨rfl, rfl, hcp2, hb471⟩ := h471
        have hgo := ih (t + 1) (i + 5) m471 z471 (k + mc + 0) (q + ms + 0) (by omega) (by omega) ht2 (by rw [show 21 * ((t + 1 : Nat) : Int) = 21 * (t : Int) + 21 by omega]; exact hcp2) (hb471.trans hbs2) (by omega) (by omega) (by omega)
        refine V.icmp_eq aL_law_474 (tgt := 775) (by decide) (fun c474 => ?_) (fun c474 => ?_)
        · refine V.inc3 aL_law_775 (by omega) ?_
          refine V.goto aL_law_778 (tgt := 18) (by decide) ?_
          exact hgo
        · exact absurd rfl c474
      · refine V.ald1 aL_law_479 ?_
        obtain ⟨ans, d, mc, ms, Mid, ⟨hd1, hd2, hd3⟩, okA, okB⟩ := pair_clearText (G := G) (sz := sz)  hcp hC hG hsz hb
        refine call_X5_clearText aL_law_480 gl_RL_70 okA hX (Nat.le_of_ble_eq_true rfl) ⟨⟨by show _ ≤ (11 : Nat); omega, by show _ ≤ (404 : Nat); omega⟩, by show _ ≤ (600000 : Nat); omega, by show _ ≤ (7302250 : Nat); omega⟩ (fun r480 z480 m480 h480 => ?_)
        obtain ⟨rfl, hz480, hmid, hb480⟩ := h480
        obtain ⟨⟨fsB, hXB⟩, okC⟩ := okB z480 m480 hmid
        have hbs2 : m480 b = fiar L xs := hb480.trans hbs
        refine V.ald2 aL_law_483 ?_
        refine call_X6_clearText aL_law_484 gl_RL_73 okC hXB (Nat.le_of_ble_eq_true rfl) ⟨⟨by decide, by decide⟩, by show _ ≤ (600000 : Nat); omega, by show _ ≤ (7302250 : Nat); omega⟩ (fun r484 z484 m484 h484 => ?_)
        obtain ⟨rfl, rfl, hcp2, hb484⟩ := h484
        have hgo := ih (t + 1) (i + 5) m484 z484 (k + mc + 0) (q + ms + 0) (by omega) (by omega) ht2 (by rw [show 21 * ((t + 1 : Nat) : Int) = 21 * (t : Int) + 21 by omega]; exact hcp2) (hb484.trans hbs2) (by omega) (by omega) (by omega)
        refine V.icmp_eq aL_law_487 (tgt := 775) (by decide) (fun c487 => ?_) (fun c487 => ?_)
        · refine V.inc3 aL_law_775 (by omega) ?_
          refine V.goto aL_law_778 (tgt := 18) (by decide) ?_
          exact hgo
        · exact absurd rfl c487
      · refine V.ald1 aL_law_492 ?_
        obtain ⟨ans, d, mc, ms, Mid, ⟨hd1, hd2, hd3⟩, okA, okB⟩ := pair_undo (G := G) (sz := sz)  hcp hC hG hsz hb
        refine call_X5_undo aL_law_493 gl_RL_74 okA hX (Nat.le_of_ble_eq_true rfl) ⟨⟨by show _ ≤ (11 : Nat); omega, by show _ ≤ (404 : Nat); omega⟩, by show _ ≤ (600000 : Nat); omega, by show _ ≤ (7302250 : Nat); omega⟩ (fun r493 z493 m493 h493 => ?_)
        obtain ⟨rfl, hz493, hmid, hb493⟩ := h493
        obtain ⟨⟨fsB, hXB⟩, okC⟩ := okB z493 m493 hmid
        have hbs2 : m493 b = fiar L xs := hb493.trans hbs
        refine V.ald2 aL_law_496 ?_
        refine call_X6_undo aL_law_497 gl_RL_77 okC hXB (Nat.le_of_ble_eq_true rfl) ⟨⟨by decide, by decide⟩, by show _ ≤ (600000 : Nat); omega, by show _ ≤ (7302250 : Nat); omega⟩ (fun r497 z497 m497 h497 => ?_)
        obtain ⟨rfl, rfl, hcp2, hb497⟩ := h497
        have hgo := ih (t + 1) (i + 5) m497 z497 (k + mc + 0) (q + ms + 0) (by omega) (by omega) ht2 (by rw [show 21 * ((t + 1 : Nat) : Int) = 21 * (t : Int) + 21 by omega]; exact hcp2) (hb497.trans hbs2) (by omega) (by omega) (by omega)
        refine V.icmp_eq aL_law_500 (tgt := 775) (by decide) (fun c500 => ?_) (fun c500 => ?_)
        · refine V.inc3 aL_law_775 (by omega) ?_
          refine V.goto aL_law_778 (tgt := 18) (by decide) ?_
          exact hgo
        · exact absurd rfl c500
      · refine V.ald1 aL_law_505 ?_
        obtain ⟨ans, d, mc, ms, Mid, ⟨hd1, hd2, hd3⟩, okA, okB⟩ := pair_keep (G := G) (sz := sz)  hcp hC hG hsz hb
        refine call_X5_keep aL_law_506 gl_RL_78 okA hX (Nat.le_of_ble_eq_true rfl) ⟨⟨by show _ ≤ (11 : Nat); omega, by show _ ≤ (404 : Nat); omega⟩, by show _ ≤ (600000 : Nat); omega, by show _ ≤ (7302250 : Nat); omega⟩ (fun r506 z506 m506 h506 => ?_)
        obtain ⟨rfl, hz506, hmid, hb506⟩ := h506
        obtain ⟨⟨fsB, hXB⟩, okC⟩ := okB z506 m506 hmid
        have hbs2 : m506 b = fiar L xs := hb506.trans hbs
        refine V.ald2 aL_law_509 ?_
        refine call_X6_keep aL_law_510 gl_RL_81 okC hXB (Nat.le_of_ble_eq_true rfl) ⟨⟨by decide, by decide⟩, by show _ ≤ (600000 : Nat); omega, by show _ ≤ (7302250 : Nat); omega⟩ (fun r510 z510 m510 h510 => ?_)
        obtain ⟨rfl, rfl, hcp2, hb510⟩ := h510
        have hgo := ih (t + 1) (i + 5) m510 z510 (k + mc + 0) (q + ms + 0) (by omega) (by omega) ht2 (by rw [show 21 * ((t + 1 : Nat) : Int) = 21 * (t : Int) + 21 by omega]; exact hcp2) (hb510.trans hbs2) (by omega) (by omega) (by omega)
        refine V.icmp_eq aL_law_513 (tgt := 775) (by decide) (fun c513 => ?_) (fun c513 => ?_)
        · refine V.inc3 aL_law_775 (by omega) ?_
          refine V.goto aL_law_778 (tgt := 18) (by decide) ?_
          exact hgo
        · exact absurd rfl c513
      · refine V.ald1 aL_law_518 ?_
        obtain ⟨ans, d, mc, ms, Mid, ⟨hd1, hd2, hd3⟩, okA, okB⟩ := pair_restore (G := G) (sz := sz)  hcp hC hG hsz hb
        refine call_X5_restore aL_law_519 gl_RL_82 okA hX (Nat.le_of_ble_eq_true rfl) ⟨⟨by show _ ≤ (11 : Nat); omega, by show _ ≤ (404 : Nat); omega⟩, by show _ ≤ (600000 : Nat); omega, by show _ ≤ (7302250 : Nat); omega⟩ (fun r519 z519 m519 h519 => ?_)
        obtain ⟨rfl, hz519, hmid, hb519⟩ := h519
        obtain ⟨⟨fsB, hXB⟩, okC⟩ := okB z519 m519 hmid
        have hbs2 : m519 b = fiar L xs := hb519.trans hbs
        refine V.ald2 aL_law_522 ?_
        refine call_X6_restore aL_law_523 gl_RL_85 okC hXB (Nat.le_of_ble_eq_true rfl) ⟨⟨by decide, by decide⟩, by show _ ≤ (600000 : Nat); omega, by show _ ≤ (7302250 : Nat); omega⟩ (fun r523 z523 m523 h523 => ?_)
        obtain ⟨rfl, rfl, hcp2, hb523⟩ := h523
        have hgo := ih (t + 1) (i + 5) m523 z523 (k + mc + 0) (q + ms + 0) (by omega) (by omega) ht2 (by rw [show 21 * ((t + 1 : Nat) : Int) = 21 * (t : Int) + 21 by omega]; exact hcp2) (hb523.trans hbs2) (by omega) (by omega) (by omega)
        refine V.icmp_eq aL_law_526 (tgt := 775) (by decide) (fun c526 => ?_) (fun c526 => ?_)
        · refine V.inc3 aL_law_775 (by omega) ?_
          refine V.goto aL_law_778 (tgt := 18) (by decide) ?_
          exact hgo
        · exact absurd rfl c526
      · refine V.ald1 aL_law_531 ?_
        refine V.ald0 aL_law_532 ?_
        refine V.ild3 aL_law_533 ?_
        refine V.iconst aL_law_534 (by decide) ?_
        refine V.iadd aL_law_535 (by omega) ?_
        refine V.fald (nn := L) (f := xs) aL_law_536 (by assumption) (by omega) (by omega) ?_
        refine V.ald0 aL_law_537 ?_
        refine V.ild3 aL_law_538 ?_
        refine V.iconst aL_law_539 (by decide) ?_
        refine V.iadd aL_law_540 (by omega) ?_
        refine V.fald (nn := L) (f := xs) aL_law_541 (by assumption) (by omega) (by omega) ?_
        obtain ⟨ans, d, mc, ms, Mid, ⟨hd1, hd2, hd3⟩, okA, okB⟩ := pair_cell (G := G) (sz := sz) (r := xs (i + 1)) (e := xs (i + 2)) hcp hC hG hsz hb
        refine call_X5_cell aL_law_542 gl_RL_86 okA hX (Nat.le_of_ble_eq_true rfl) ⟨⟨by show _ ≤ (11 : Nat); omega, by show _ ≤ (404 : Nat); omega⟩, by show _ ≤ (600000 : Nat); omega, by show _ ≤ (7302250 : Nat); omega⟩ (fun r542 z542 m542 h542 => ?_)
        obtain ⟨rfl, hz542, hmid, hb542⟩ := h542
        obtain ⟨⟨fsB, hXB⟩, okC⟩ := okB z542 m542 hmid
        have hbs2 : m542 b = fiar L xs := hb542.trans hbs
        refine V.ald2 aL_law_545 ?_
        refine V.ald0 aL_law_546 ?_
        refine V.ild3 aL_law_547 ?_
        refine V.iconst aL_law_548 (by decide) ?_
        refine V.iadd aL_law_549 (by omega) ?_
        refine V.fald (nn := L) (f := xs) aL_law_550 (by assumption) (by omega) (by omega) ?_
        refine V.ald0 aL_law_551 ?_
        refine V.ild3 aL_law_552 ?_
        refine V.iconst aL_law_553 (by decide) ?_
        refine V.iadd aL_law_554 (by omega) ?_
        refine V.fald (nn := L) (f := xs) aL_law_555 (by assumption) (by omega) (by omega) ?_
        refine call_X6_cell aL_law_556 gl_RL_89 okC hXB (Nat.le_of_ble_eq_true rfl) ⟨⟨by decide, by decide⟩, by show _ ≤ (600000 : Nat); omega, by show _ ≤ (7302250 : Nat); omega⟩ (fun r556 z556 m556 h556 => ?_)
        obtain ⟨rfl, rfl, hcp2, hb556⟩ := h556
        have hgo := ih (t + 1) (i + 5) m556 z556 (k + mc + 0) (q + ms + 0) (by omega) (by omega) ht2 (by rw [show 21 * ((t + 1 : Nat) : Int) = 21 * (t : Int) + 21 by omega]; exact hcp2) (hb556.trans hbs2) (by omega) (by omega) (by omega)
        refine V.icmp_eq aL_law_559 (tgt := 775) (by decide) (fun c559 => ?_) (fun c559 => ?_)
        · refine V.inc3 aL_law_775 (by omega) ?_
          refine V.goto aL_law_778 (tgt := 18) (by decide) ?_
          exact hgo
        · exact absurd rfl c559
      · refine V.ald1 aL_law_564 ?_
        refine V.ald0 aL_law_565 ?_
        refine V.ild3 aL_law_566 ?_
        refine V.iconst aL_law_567 (by decide) ?_
        refine V.iadd aL_law_568 (by omega) ?_
        refine V.fald (nn := L) (f := xs) aL_law_569 (by assumption) (by omega) (by omega) ?_
        refine V.ald0 aL_law_570 ?_
        refine V.ild3 aL_law_571 ?_
        refine V.iconst aL_law_572 (by decide) ?_
        refine V.iadd aL_law_573 (by omega) ?_
        refine V.fald (nn := L) (f := xs) aL_law_574 (by assumption) (by omega) (by omega) ?_
        obtain ⟨ans, d, mc, ms, Mid, ⟨hd1, hd2, hd3⟩, okA, okB⟩ := pair_page (G := G) (sz := sz) (r := xs (i + 1)) (w := xs (i + 2)) hcp hC hG hsz hb
        refine call_X5_page aL_law_575 gl_RL_90 okA hX (Nat.le_of_ble_eq_true rfl) ⟨⟨by show _ ≤ (11 : Nat); omega, by show _ ≤ (404 : Nat); omega⟩, by show _ ≤ (600000 : Nat); omega, by show _ ≤ (7302250 : Nat); omega⟩ (fun r575 z575 m575 h575 => ?_)
        obtain ⟨rfl, hz575, hmid, hb575⟩ := h575
        obtain ⟨⟨fsB, hXB⟩, okC⟩ := okB z575 m575 hmid
        have hbs2 : m575 b = fiar L xs := hb575.trans hbs
        refine V.ald2 aL_law_578 ?_
        refine V.ald0 aL_law_579 ?_
        refine V.ild3 aL_law_580 ?_
        refine V.iconst aL_law_581 (by decide) ?_
        refine V.iadd aL_law_582 (by omega) ?_
        refine V.fald (nn := L) (f := xs) aL_law_583 (by assumption) (by omega) (by omega) ?_
        refine V.ald0 aL_law_584 ?_
        refine V.ild3 aL_law_585 ?_
        refine V.iconst aL_law_586 (by decide) ?_
        refine V.iadd aL_law_587 (by omega) ?_
        refine V.fald (nn := L) (f := xs) aL_law_588 (by assumption) (by omega) (by omega) ?_
        refine call_X6_page aL_law_589 gl_RL_93 okC hXB (Nat.le_of_ble_eq_true rfl) ⟨⟨by decide, by decide⟩, by show _ ≤ (600000 : Nat); omega, by show _ ≤ (7302250 : Nat); omega⟩ (fun r589 z589 m589 h589 => ?_)
        obtain ⟨rfl, rfl, hcp2, hb589⟩ := h589
        have hgo := ih (t + 1) (i + 5) m589 z589 (k + mc + 0) (q + ms + 0) (by omega) (by omega) ht2 (by rw [show 21 * ((t + 1 : Nat) : Int) = 21 * (t : Int) + 21 by omega]; exact hcp2) (hb589.trans hbs2) (by omega) (by omega) (by omega)
        refine V.icmp_eq aL_law_592 (tgt := 775) (by decide) (fun c592 => ?_) (fun c592 => ?_)
        · refine V.inc3 aL_law_775 (by omega) ?_
          refine V.goto aL_law_778 (tgt := 18) (by decide) ?_
          exact hgo
        · exact absurd rfl c592
      · refine V.ald1 aL_law_597 ?_
        refine V.ald0 aL_law_598 ?_
        refine V.ild3 aL_law_599 ?_
        refine V.iconst aL_law_600 (by decide) ?_
        refine V.iadd aL_law_601 (by omega) ?_
        refine V.fald (nn := L) (f := xs) aL_law_602 (by assumption) (by omega) (by omega) ?_
        refine V.ald0 aL_law_603 ?_
        refine V.ild3 aL_law_604 ?_
        refine V.iconst aL_law_605 (by decide) ?_
        refine V.iadd aL_law_606 (by omega) ?_
        refine V.fald (nn := L) (f := xs) aL_law_607 (by assumption) (by omega) (by omega) ?_
        obtain ⟨ans, d, mc, ms, Mid, ⟨hd1, hd2, hd3⟩, okA, okB⟩ := pair_stored (G := G) (sz := sz) (r := xs (i + 1)) (e := xs (i + 2)) hcp hC hG hsz hb
        refine call_X5_stored aL_law_608 gl_RL_94 okA hX (Nat.le_of_ble_eq_true rfl) ⟨⟨by show _ ≤ (11 : Nat); omega, by show _ ≤ (404 : Nat); omega⟩, by show _ ≤ (600000 : Nat); omega, by show _ ≤ (7302250 : Nat); omega⟩ (fun r608 z608 m608 h608 => ?_)
        obtain ⟨rfl, hz608, hmid, hb608⟩ := h608
        obtain ⟨⟨fsB, hXB⟩, okC⟩ := okB z608 m608 hmid
        have hbs2 : m608 b = fiar L xs := hb608.trans hbs
        refine V.ald2 aL_law_611 ?_
        refine V.ald0 aL_law_612 ?_
        refine V.ild3 aL_law_613 ?_
        refine V.iconst aL_law_614 (by decide) ?_
        refine V.iadd aL_law_615 (by omega) ?_
        refine V.fald (nn := L) (f := xs) aL_law_616 (by assumption) (by omega) (by omega) ?_
        refine V.ald0 aL_law_617 ?_
        refine V.ild3 aL_law_618 ?_
        refine V.iconst aL_law_619 (by decide) ?_
        refine V.iadd aL_law_620 (by omega) ?_
        refine V.fald (nn := L) (f := xs) aL_law_621 (by assumption) (by omega) (by omega) ?_
        refine call_X6_stored aL_law_622 gl_RL_97 okC hXB (Nat.le_of_ble_eq_true rfl) ⟨⟨by decide, by decide⟩, by show _ ≤ (600000 : Nat); omega, by show _ ≤ (7302250 : Nat); omega⟩ (fun r622 z622 m622 h622 => ?_)
        obtain ⟨rfl, rfl, hcp2, hb622⟩ := h622
        have hgo := ih (t + 1) (i + 5) m622 z622 (k + mc + 0) (q + ms + 0) (by omega) (by omega) ht2 (by rw [show 21 * ((t + 1 : Nat) : Int) = 21 * (t : Int) + 21 by omega]; exact hcp2) (hb622.trans hbs2) (by omega) (by omega) (by omega)
        refine V.icmp_eq aL_law_625 (tgt := 775) (by decide) (fun c625 => ?_) (fun c625 => ?_)
        · refine V.inc3 aL_law_775 (by omega) ?_
          refine V.goto aL_law_778 (tgt := 18) (by decide) ?_
          exact hgo
        · exact absurd rfl c625
      · refine V.ald1 aL_law_630 ?_
        refine V.ald0 aL_law_631 ?_
        refine V.ild3 aL_law_632 ?_
        refine V.iconst aL_law_633 (by decide) ?_
        refine V.iadd aL_law_634 (by omega) ?_
        refine V.fald (nn := L) (f := xs) aL_law_635 (by assumption) (by omega) (by omega) ?_
        refine V.ald0 aL_law_636 ?_
        refine V.ild3 aL_law_637 ?_
        refine V.iconst aL_law_638 (by decide) ?_
        refine V.iadd aL_law_639 (by omega) ?_
        refine V.fald (nn := L) (f := xs) aL_law_640 (by assumption) (by omega) (by omega) ?_
        obtain ⟨ans, d, mc, ms, Mid, ⟨hd1, hd2, hd3⟩, okA, okB⟩ := pair_entry (G := G) (sz := sz) (r := xs (i + 1)) (w := xs (i + 2)) hcp hC hG hsz hb
        refine call_X5_entry aL_law_641 gl_RL_98 okA hX (Nat.le_of_ble_eq_true rfl) ⟨⟨by show _ ≤ (11 : Nat); omega, by show _ ≤ (404 : Nat); omega⟩, by show _ ≤ (600000 : Nat); omega, by show _ ≤ (7302250 : Nat); omega⟩ (fun r641 z641 m641 h641 => ?_)
        obtain ⟨rfl, hz641, hmid, hb641⟩ := h641
        obtain ⟨⟨fsB, hXB⟩, okC⟩ := okB z641 m641 hmid
        have hbs2 : m641 b = fiar L xs := hb641.trans hbs
        refine V.ald2 aL_law_644 ?_
        refine V.ald0 aL_law_645 ?_
        refine V.ild3 aL_law_646 ?_
        refine V.iconst aL_law_647 (by decide) ?_
        refine V.iadd aL_law_648 (by omega) ?_
        refine V.fald (nn := L) (f := xs) aL_law_649 (by assumption) (by omega) (by omega) ?_
        refine V.ald0 aL_law_650 ?_
        refine V.ild3 aL_law_651 ?_
        refine V.iconst aL_law_652 (by decide) ?_
        refine V.iadd aL_law_653 (by omega) ?_
        refine V.fald (nn := L) (f := xs) aL_law_654 (by assumption) (by omega) (by omega) ?_
        refine call_X6_entry aL_law_655 gl_RL_101 okC hXB (Nat.le_of_ble_eq_true rfl) ⟨⟨by decide, by decide⟩, by show _ ≤ (600000 : Nat); omega, by show _ ≤ (7302250 : Nat); omega⟩ (fun r655 z655 m655 h655 => ?_)
        obtain ⟨rfl, rfl, hcp2, hb655⟩ := h655
        have hgo := ih (t + 1) (i + 5) m655 z655 (k + mc + 0) (q + ms + 0) (by omega) (by omega) ht2 (by rw [show 21 * ((t + 1 : Nat) : Int) = 21 * (t : Int) + 21 by omega]; exact hcp2) (hb655.trans hbs2) (by omega) (by omega) (by omega)
        refine V.icmp_eq aL_law_658 (tgt := 775) (by decide) (fun c658 => ?_) (fun c658 => ?_)
        · refine V.inc3 aL_law_775 (by omega) ?_
          refine V.goto aL_law_778 (tgt := 18) (by decide) ?_
          exact hgo
        · exact absurd rfl c658
      · refine V.ald1 aL_law_663 ?_
        refine V.ald0 aL_law_664 ?_
        refine V.ild3 aL_law_665 ?_
        refine V.iconst aL_law_666 (by decide) ?_
        refine V.iadd aL_law_667 (by omega) ?_
        refine V.fald (nn := L) (f := xs) aL_law_668 (by assumption) (by omega) (by omega) ?_
        refine V.ald0 aL_law_669 ?_
        refine V.ild3 aL_law_670 ?_
        refine V.iconst aL_law_671 (by decide) ?_
        refine V.iadd aL_law_672 (by omega) ?_
        refine V.fald (nn := L) (f := xs) aL_law_673 (by assumption) (by omega) (by omega) ?_
        refine V.ald0 aL_law_674 ?_
        refine V.ild3 aL_law_675 ?_
        refine V.iconst aL_law_676 (by decide) ?_
        refine V.iadd aL_law_677 (by omega) ?_
        refine V.fald (nn := L) (f := xs) aL_law_678 (by assumption) (by omega) (by omega) ?_
        obtain ⟨ans, d, mc, ms, Mid, ⟨hd1, hd2, hd3⟩, okA, okB⟩ := pair_asOf (G := G) (sz := sz) (r := xs (i + 1)) (e := xs (i + 2)) (v := xs (i + 3)) hcp hC hG hsz hb
        refine call_X5_asOf aL_law_679 gl_RL_102 okA hX (Nat.le_of_ble_eq_true rfl) ⟨⟨by show _ ≤ (11 : Nat); omega, by show _ ≤ (404 : Nat); omega⟩, by show _ ≤ (600000 : Nat); omega, by show _ ≤ (7302250 : Nat); omega⟩ (fun r679 z679 m679 h679 => ?_)
        obtain ⟨rfl, hz679, hmid, hb679⟩ := h679
        obtain ⟨⟨fsB, hXB⟩, okC⟩ := okB z679 m679 hmid
        have hbs2 : m679 b = fiar L xs := hb679.trans hbs
        refine V.ald2 aL_law_682 ?_
        refine V.ald0 aL_law_683 ?_
        refine V.ild3 aL_law_684 ?_
        refine V.iconst aL_law_685 (by decide) ?_
        refine V.iadd aL_law_686 (by omega) ?_
        refine V.fald (nn := L) (f := xs) aL_law_687 (by assumption) (by omega) (by omega) ?_
        refine V.ald0 aL_law_688 ?_
        refine V.ild3 aL_law_689 ?_
        refine V.iconst aL_law_690 (by decide) ?_
        refine V.iadd aL_law_691 (by omega) ?_
        refine V.fald (nn := L) (f := xs) aL_law_692 (by assumption) (by omega) (by omega) ?_
        refine V.ald0 aL_law_693 ?_
        refine V.ild3 aL_law_694 ?_
        refine V.iconst aL_law_695 (by decide) ?_
        refine V.iadd aL_law_696 (by omega) ?_
        refine V.fald (nn := L) (f := xs) aL_law_697 (by assumption) (by omega) (by omega) ?_
        refine call_X6_asOf aL_law_698 gl_RL_106 okC hXB (Nat.le_of_ble_eq_true rfl) ⟨⟨by decide, by decide⟩, by show _ ≤ (600000 : Nat); omega, by show _ ≤ (7302250 : Nat); omega⟩ (fun r698 z698 m698 h698 => ?_)
        obtain ⟨rfl, rfl, hcp2, hb698⟩ := h698
        have hgo := ih (t + 1) (i + 5) m698 z698 (k + mc + 0) (q + ms + 0) (by omega) (by omega) ht2 (by rw [show 21 * ((t + 1 : Nat) : Int) = 21 * (t : Int) + 21 by omega]; exact hcp2) (hb698.trans hbs2) (by omega) (by omega) (by omega)
        refine V.icmp_eq aL_law_701 (tgt := 775) (by decide) (fun c701 => ?_) (fun c701 => ?_)
        · refine V.inc3 aL_law_775 (by omega) ?_
          refine V.goto aL_law_778 (tgt := 18) (by decide) ?_
          exact hgo
        · exact absurd rfl c701
      · refine V.ald1 aL_law_706 ?_
        refine V.ald0 aL_law_707 ?_
        refine V.ild3 aL_law_708 ?_
        refine V.iconst aL_law_709 (by decide) ?_
        refine V.iadd aL_law_710 (by omega) ?_
        refine V.fald (nn := L) (f := xs) aL_law_711 (by assumption) (by omega) (by omega) ?_
        refine V.ald0 aL_law_712 ?_
        refine V.ild3 aL_law_713 ?_
        refine V.iconst aL_law_714 (by decide) ?_
        refine V.iadd aL_law_715 (by omega) ?_
        refine V.fald (nn := L) (f := xs) aL_law_716 (by assumption) (by omega) (by omega) ?_
        obtain ⟨ans, d, mc, ms, Mid, ⟨hd1, hd2, hd3⟩, okA, okB⟩ := pair_wouldLog (G := G) (sz := sz) (r := xs (i + 1)) (v := xs (i + 2)) hcp hC hG hsz hb
        refine call_X5_wouldLog aL_law_717 gl_RL_107 okA hX (Nat.le_of_ble_eq_true rfl) ⟨⟨by show _ ≤ (11 : Nat); omega, by show _ ≤ (404 : Nat); omega⟩, by show _ ≤ (600000 : Nat); omega, by show _ ≤ (7302250 : Nat); omega⟩ (fun r717 z717 m717 h717 => ?_)
        obtain ⟨rfl, hz717, hmid, hb717⟩ := h717
        obtain ⟨⟨fsB, hXB⟩, okC⟩ := okB z717 m717 hmid
        have hbs2 : m717 b = fiar L xs := hb717.trans hbs
        refine V.ald2 aL_law_720 ?_
        refine V.ald0 aL_law_721 ?_
        refine V.ild3 aL_law_722 ?_
        refine V.iconst aL_law_723 (by decide) ?_
        refine V.iadd aL_law_724 (by omega) ?_
        refine V.fald (nn := L) (f := xs) aL_law_725 (by assumption) (by omega) (by omega) ?_
        refine V.ald0 aL_law_726 ?_
        refine V.ild3 aL_law_727 ?_
        refine V.iconst aL_law_728 (by decide) ?_
        refine V.iadd aL_law_729 (by omega) ?_
        refine V.fald (nn := L) (f := xs) aL_law_730 (by assumption) (by omega) (by omega) ?_
        refine call_X6_wouldLog aL_law_731 gl_RL_110 okC hXB (Nat.le_of_ble_eq_true rfl) ⟨⟨by decide, by decide⟩, by show _ ≤ (600000 : Nat); omega, by show _ ≤ (7302250 : Nat); omega⟩ (fun r731 z731 m731 h731 => ?_)
        obtain ⟨rfl, rfl, hcp2, hb731⟩ := h731
        have hgo := ih (t + 1) (i + 5) m731 z731 (k + mc + 0) (q + ms + 0) (by omega) (by omega) ht2 (by rw [show 21 * ((t + 1 : Nat) : Int) = 21 * (t : Int) + 21 by omega]; exact hcp2) (hb731.trans hbs2) (by omega) (by omega) (by omega)
        refine V.icmp_eq aL_law_734 (tgt := 775) (by decide) (fun c734 => ?_) (fun c734 => ?_)
        · refine V.inc3 aL_law_775 (by omega) ?_
          refine V.goto aL_law_778 (tgt := 18) (by decide) ?_
          exact hgo
        · exact absurd rfl c734
      · refine V.ald1 aL_law_739 ?_
        obtain ⟨ans, d, mc, ms, Mid, ⟨hd1, hd2, hd3⟩, okA, okB⟩ := pair_bestRenewed (G := G) (sz := sz)  hcp hC hG hsz hb
        refine call_X5_bestRenewed aL_law_740 gl_RL_111 okA hX (Nat.le_of_ble_eq_true rfl) ⟨⟨by show _ ≤ (11 : Nat); omega, by show _ ≤ (404 : Nat); omega⟩, by show _ ≤ (600000 : Nat); omega, by show _ ≤ (7302250 : Nat); omega⟩ (fun r740 z740 m740 h740 => ?_)
        obtain ⟨rfl, hz740, hmid, hb740⟩ := h740
        obtain ⟨⟨fsB, hXB⟩, okC⟩ := okB z740 m740 hmid
        have hbs2 : m740 b = fiar L xs := hb740.trans hbs
        refine V.ald2 aL_law_743 ?_
        refine call_X6_bestRenewed aL_law_744 gl_RL_114 okC hXB (Nat.le_of_ble_eq_true rfl) ⟨⟨by decide, by decide⟩, by show _ ≤ (600000 : Nat); omega, by show _ ≤ (7302250 : Nat); omega⟩ (fun r744 z744 m744 h744 => ?_)
        obtain ⟨rfl, rfl, hcp2, hb744⟩ := h744
        have hgo := ih (t + 1) (i + 5) m744 z744 (k + mc + 0) (q + ms + 0) (by omega) (by omega) ht2 (by rw [show 21 * ((t + 1 : Nat) : Int) = 21 * (t : Int) + 21 by omega]; exact hcp2) (hb744.trans hbs2) (by omega) (by omega) (by omega)
        refine V.icmp_eq aL_law_747 (tgt := 775) (by decide) (fun c747 => ?_) (fun c747 => ?_)
        · refine V.inc3 aL_law_775 (by omega) ?_
          refine V.goto aL_law_778 (tgt := 18) (by decide) ?_
          exact hgo
        · exact absurd rfl c747
      · refine V.ald1 aL_law_752 ?_
        refine V.ald0 aL_law_753 ?_
        refine V.ild3 aL_law_754 ?_
        refine V.iconst aL_law_755 (by decide) ?_
        refine V.iadd aL_law_756 (by omega) ?_
        refine V.fald (nn := L) (f := xs) aL_law_757 (by assumption) (by omega) (by omega) ?_
        obtain ⟨ans, d, mc, ms, Mid, ⟨hd1, hd2, hd3⟩, okA, okB⟩ := pair_count (G := G) (sz := sz) (w := xs (i + 1)) hcp hC hG hsz hb
        refine call_X5_count aL_law_758 gl_RL_115 okA hX (Nat.le_of_ble_eq_true rfl) ⟨⟨by show _ ≤ (11 : Nat); omega, by show _ ≤ (404 : Nat); omega⟩, by show _ ≤ (600000 : Nat); omega, by show _ ≤ (7302250 : Nat); omega⟩ (fun r758 z758 m758 h758 => ?_)
        obtain ⟨rfl, hz758, hmid, hb758⟩ := h758
        obtain ⟨⟨fsB, hXB⟩, okC⟩ := okB z758 m758 hmid
        have hbs2 : m758 b = fiar L xs := hb758.trans hbs
        refine V.ald2 aL_law_761 ?_
        refine V.ald0 aL_law_762 ?_
        refine V.ild3 aL_law_763 ?_
        refine V.iconst aL_law_764 (by decide) ?_
        refine V.iadd aL_law_765 (by omega) ?_
        refine V.fald (nn := L) (f := xs) aL_law_766 (by assumption) (by omega) (by omega) ?_
        refine call_X6_count aL_law_767 gl_RL_118 okC hXB (Nat.le_of_ble_eq_true rfl) ⟨⟨by decide, by decide⟩, by show _ ≤ (600000 : Nat); omega, by show _ ≤ (7302250 : Nat); omega⟩ (fun r767 z767 m767 h767 => ?_)
        obtain ⟨rfl, rfl, hcp2, hb767⟩ := h767
        have hgo := ih (t + 1) (i + 5) m767 z767 (k + mc + 0) (q + ms + 0) (by omega) (by omega) ht2 (by rw [show 21 * ((t + 1 : Nat) : Int) = 21 * (t : Int) + 21 by omega]; exact hcp2) (hb767.trans hbs2) (by omega) (by omega) (by omega)
        refine V.icmp_eq aL_law_770 (tgt := 775) (by decide) (fun c770 => ?_) (fun c770 => ?_)
        · refine V.inc3 aL_law_775 (by omega) ?_
          refine V.goto aL_law_778 (tgt := 18) (by decide) ?_
          exact hgo
        · exact absurd rfl c770
      · refine V.inc3 aL_law_775 (by omega) ?_
        refine V.goto aL_law_778 (tgt := 18) (by decide) ?_
        exact ih (t + 1) (i + 5) M sz k q (by omega) (by omega) ht2 (by rw [show 21 * ((t + 1 : Nat) : Int) = 21 * (t : Int) + 21 by omega]; exact hcp.mono ⟨by omega, by omega⟩) hbs hsz (by omega) (by omega)
end

