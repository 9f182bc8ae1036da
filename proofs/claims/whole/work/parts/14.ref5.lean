-- the reference's methods: contracts (part five): an entry that is made, logged; acts
def PX (m : Mem) (o : Nat) (z : Int) (sz : Nat) (s pa : Int → Int) (sv : Int) (sh : Int → Int) (ish : Int) (tx : Int → Int) (ln : Int) : PO := fun r z' m' => r = some (.inl z) ∧ z' = sz ∧ ∃ (sp' cl' bf' mk' : Int → Int) (st' : Int), (fun (sp' cl' bf' mk' : Int → Int) (st' : Int) => m') sp' cl' bf' mk' st' = MM m o s sp' pa sv sh ish tx ln cl' bf' mk' st'
theorem mkF_at {page kind fr many value : Int} {mk : Int → Int} {j : Int} (h : 0 ≤ j ∧ j < 17) : mkF page kind fr many value mk j = if j = 5 then value else if j = 3 then many else if j = 2 then fr else if j = 1 then kind else if j = 0 then page else 0 := by
  unfold mkF upI
  repeat (split; rfl)
  rw [cpy_in (by omega)]
theorem mkF_ok {page kind fr many value : Int} {mk : Int → Int} (h0 : 0 ≤ page ∧ page < 6) (hk : 1 ≤ kind ∧ kind ≤ 3) (hf : 0 ≤ fr ∧ 1 ≤ many ∧ fr + many ≤ 12) (hv : 0 ≤ value) (h9 : kind ≠ 3 → value ≤ 9) (h3 : kind = 3 → 1 ≤ value ∧ value ≤ 11 ∧ fr = 0 ∧ many = 12) (h2 : kind = 2 → 1 ≤ value) : entOK (mkF page kind fr many value mk) 0 := by
  have e : ∀ j, 0 ≤ j → j < 17 → mkF page kind fr many value mk j = if j = 5 then value else if j = 3 then many else if j = 2 then fr else if j = 1 then kind else if j = 0 then page else 0 := fun j j0 j1 => mkF_at ⟨j0, j1⟩
  have e0 : mkF page kind fr many value mk 0 = page := e 0 (by decide) (by decide)
  have e1 : mkF page kind fr many value mk (0 + 1) = kind := e 1 (by decide) (by decide)
  have e2 : mkF page kind fr many value mk (0 + 2) = fr := e 2 (by decide) (by decide)
  have e3 : mkF page kind fr many value mk (0 + 3) = many := e 3 (by decide) (by decide)
  have e4 : mkF page kind fr many value mk (0 + 4) = 0 := e 4 (by decide) (by decide)
  have e5 : mkF page kind fr many value mk (0 + 5) = value := e 5 (by decide) (by decide)
  have e6 : ∀ j, 0 ≤ j → j < 12 → mkF page kind fr many value mk (0 + 5 + j) = if j = 0 then value else 0 := by
    intro j j0 j1
    rw [e _ (by omega) (by omega)]
    by_cases hj : j = 0
    · subst hj; rfl
    · rw [if_neg (by omega), if_neg (by omega), if_neg (by omega), if_neg (by omega), if_neg (by omega), if_neg hj]
  refine ⟨by omega, by omega, by omega, by omega, fun j j0 j1 => ?_, fun q j j0 j1 => ?_, by omega, by omega, by omega⟩
  · rw [e6 j j0 j1]; split <;> omega
  · rw [e6 j j0 j1]; split <;> omega
theorem picF_lo {page : Int} {cl mk : Int → Int} {j : Int} (h : 0 ≤ j ∧ j < 5) : picF page cl mk j = if j = 3 then 12 else if j = 0 then page else 0 := by
  unfold picF
  rw [cpy_out (by omega), mkF_at (by omega)]
  split
  · omega
  · split
    · rfl
    · split
      · omega
      · split
        · omega
        · rfl
theorem picF_v {page : Int} {cl mk : Int → Int} {j : Int} (h : 0 ≤ j ∧ j < 12) : picF page cl mk (5 + j) = cl j := by
  unfold picF
  rw [cpy_in (by omega)]
  congr 1
  omega
theorem picF_ok {page : Int} {cl mk : Int → Int} (h0 : 0 ≤ page ∧ page < 6) (hc : ∀ k, 0 ≤ k → k < 12 → 0 ≤ cl k ∧ cl k ≤ 9) : entOK (picF page cl mk) 0 := by
  have e0 : picF page cl mk 0 = page := picF_lo (j := 0) (by decide)
  have e1 : picF page cl mk (0 + 1) = 0 := picF_lo (j := 1) (by decide)
  have e2 : picF page cl mk (0 + 2) = 0 := picF_lo (j := 2) (by decide)
  have e3 : picF page cl mk (0 + 3) = 12 := picF_lo (j := 3) (by decide)
  have e4 : picF page cl mk (0 + 4) = 0 := picF_lo (j := 4) (by decide)
  have e6 : ∀ j, 0 ≤ j → j < 12 → picF page cl mk (0 + 5 + j) = cl j := fun j j0 j1 => picF_v ⟨j0, j1⟩
  refine ⟨by omega, by omega, by omega, by omega, fun j j0 j1 => ?_, fun q j j0 j1 => ?_, by omega, by omega, by omega⟩
  · rw [e6 j j0 j1]; exact (hc j j0 j1).1
  · rw [e6 j j0 j1]; exact (hc j j0 j1).2
theorem chCl_b {s cl mk : Int → Int} (hC : CellS s) (hM : entOK mk 0) : ∀ k, 0 ≤ k → k < 12 → 0 ≤ chCl s cl mk k ∧ chCl s cl mk k ≤ 9 := applyF_b hM (hold_b hC (Or.inl rfl) hM.1 cl)
theorem chMk_ok {s cl mk : Int → Int} (hC : CellS s) (hM : entOK mk 0) : entOK (chMk s cl mk) 0 := by
  unfold chMk
  split
  · exact picF_ok hM.1 (chCl_b hC hM)
  · exact hM
def actZ (s cl mk : Int → Int) : Int := if fits1 s (chMk s cl mk) then chMk s cl mk 1 else -3
def actS (s cl mk : Int → Int) : Int → Int := if fits1 s (chMk s cl mk) then logsF s (chCl s cl mk) (chMk s cl mk) else s
def actPa (s cl mk pa : Int → Int) (sv : Int) : Int → Int := if fits1 s (chMk s cl mk) then recA pa sv s else pa
def actSv (s cl mk : Int → Int) (sv : Int) : Int := if fits1 s (chMk s cl mk) then recV sv else sv
section
variable {G : GX} {sz : Nat} {m : Mem} {o : Nat} {s sp pa sh tx cl bf mk : Int → Int} {sv ish ln st : Int}
theorem PX.of {z z2 : Int} {s2 pa2 sh2 tx2 : Int → Int} {sv2 ish2 ln2 : Int} (h : z = z2) (e1 : s = s2) (e2 : pa = pa2) (e3 : sv = sv2) (e4 : sh = sh2) (e5 : ish = ish2) (e6 : tx = tx2) (e7 : ln = ln2) : PX m o z2 sz s2 pa2 sv2 sh2 ish2 tx2 ln2 (some (.inl z)) sz (MM m o s sp pa sv sh ish tx ln cl bf mk st) := by
  subst h e1 e2 e3 e4 e5 e6 e7
  exact ⟨rfl, rfl, sp, cl, bf, mk, st, rfl⟩
theorem ok_logs (hN : Num s) (hE : EntS s) (hM : entOK mk 0) (h1 : 0 ≤ s 1 ∧ s 1 ≤ 300) (h5 : (0 ≤ s 5 ∧ s 5 ≤ 30000) ∧ (0 ≤ s 6 ∧ s 6 ≤ 30000)) (hf : fits1 s mk) (hroom : s 3 - (s 2 + droppable s (s 1 - sizeA mk 0)) < 100) : Ok G kX6_logs 6 [.inr (some o)] sz (MM m o s sp pa sv sh ish tx ln cl bf mk st) 0 0 (PV sz (MM m o (logsF s cl mk) sp pa sv sh ish tx ln cl bf mk st)) := by
  refine Ok.body [some (.inr (some o)), none, none, none] rfl (Nat.le_of_ble_eq_true rfl) (by decide) ?_
  obtain ⟨n0, n1, n2, n3, n4⟩ := id hN
  have hs := sizeA_b hM
  have hd := droppable_b (most := s 1 - sizeA mk 0) hN
  have hp : 0 ≤ mk 0 ∧ mk 0 < 6 := hM.1
  have hm3 := hM.2.2.1
  rw [show (0 : Int) + 3 = 3 from rfl, show (0 : Int) + 2 = 2 from rfl] at hm3
  obtain ⟨N, hNe⟩ : ∃ N, N = droppable s (s 1 - sizeA mk 0) := ⟨_, rfl⟩
  rw [← hNe] at hd hroom
  obtain ⟨q, hq⟩ : ∃ q, q = dropsF s N := ⟨_, rfl⟩
  have q2 : q 2 = s 2 + N := by rw [hq]; exact dropsF_2
  have q3 : q 3 = s 3 := by rw [hq]; exact dropsF_lo hE hd.1 (by omega) (by decide) (by decide)
  have q5 : q 5 = s 5 := by rw [hq]; exact dropsF_lo hE hd.1 (by omega) (by decide) (by decide)
  have q6 : q 6 = s 6 := by rw [hq]; exact dropsF_lo hE hd.1 (by omega) (by decide) (by decide)
  obtain ⟨A, hA⟩ : ∃ A, A = 170 + 17 * (s 3 - (s 2 + N)) := ⟨_, rfl⟩
  obtain ⟨q4, hq4⟩ : ∃ q4, q4 = cpy cl 0 (cpy mk 0 (upI q 3 (s 3 + 1)) A 17) (8 + 12 * mk 0) 12 := ⟨_, rfl⟩
  have l4 : q4 = logS4 s cl mk := by rw [hq4, hA, hq, hNe]; rfl
  have r5 : ∀ j, j < 8 → j ≠ 3 → q4 j = q j := by
    intro j j0 j1
    rw [hq4, cpy_out (by omega), cpy_out (by omega), upI_n j1]
  have tail : V G kX6_logs (rmM 6 0 0) (QfM G (PV sz (MM m o (logsF s cl mk) sp pa sv sh ish tx ln cl bf mk st)) 0 0) 113 [some (.inr (some o)), some (.inl (s 3)), some (.inl (mk 0)), some (.inl 12)] [] sz (MM m o q4 sp pa sv sh ish tx ln cl bf mk st) 0 0 := by
    have e5a : upI q4 (158 + mk 0) 0 5 = s 5 := by rw [upI_n (by omega), r5 5 (by decide) (by decide), q5]
    have e5b : upI q4 (158 + mk 0) (q4 (158 + mk 0)) 5 = s 5 := by rw [upI_n (by omega), r5 5 (by decide) (by decide), q5]
    have e6a : upI q4 (158 + mk 0) 0 6 = s 6 := by rw [upI_n (by omega), r5 6 (by decide) (by decide), q6]
    have e6b : upI q4 (158 + mk 0) (q4 (158 + mk 0)) 6 = s 6 := by rw [upI_n (by omega), r5 6 (by decide) (by decide), q6]
    refine V.ald0 aX6_logs_113 ?_
    refine M.gf aX6_logs_114 fl_RX6_32 rfl ?_
    refine V.iconst aX6_logs_117 (by decide) ?_
    refine M.ldmk aX6_logs_118 (by omega) ?_
    refine V.if_ne aX6_logs_119 (tgt := 126) (by decide) (fun c119 => ?_) (fun c119 => ?_)
    · refine V.iconst aX6_logs_126 (by decide) ?_
      refine V.ist3 aX6_logs_127 ?_
      refine V.ald0 aX6_logs_128 ?_
      refine M.gf aX6_logs_129 fl_RX6_7 rfl ?_
      refine V.sipush aX6_logs_132 (by decide) (by decide) ?_
      refine V.ild2 aX6_logs_135 ?_
      refine V.iadd aX6_logs_136 (by omega) ?_
      refine V.ild3 aX6_logs_137 ?_
      refine V.if_eq aX6_logs_138 (tgt := 145) (by decide) (fun c138 => ?_) (fun c138 => ?_)
      · refine V.ald0 aX6_logs_145 ?_
        refine M.gf aX6_logs_146 fl_RX6_7 rfl ?_
        refine V.sipush aX6_logs_149 (by decide) (by decide) ?_
        refine V.ild2 aX6_logs_152 ?_
        refine V.iadd aX6_logs_153 (by omega) ?_
        refine M.lds aX6_logs_154 (by omega) ?_
        refine M.sts aX6_logs_155 (by omega) ?_
        refine V.ald0 aX6_logs_156 ?_
        refine M.gf aX6_logs_157 fl_RX6_7 rfl ?_
        refine V.ild3 aX6_logs_160 ?_
        refine V.if_eq aX6_logs_161 (tgt := 168) (by decide) (fun c161 => ?_) (fun c161 => ?_)
        · refine V.bipush aX6_logs_168 (by decide) (by decide) ?_
          refine V.dup2 aX6_logs_170 ?_
          refine M.lds aX6_logs_171 (by omega) ?_
          refine V.iconst aX6_logs_172 (by decide) ?_
          refine V.iadd aX6_logs_173 (by omega) ?_
          refine M.sts aX6_logs_174 (by omega) ?_
          refine V.ret aX6_logs_175 rfl (by decide) ?_
          refine PV.of ?_
          unfold logsF logS5
          rw [← l4]
          by_cases hx : mk 1 = 0
          · (rw [if_pos hx, if_pos hx]) <;> first | rfl | (exfalso; omega)
          · (rw [if_neg hx, if_neg hx]) <;> first | rfl | (exfalso; omega)
        · refine V.iconst aX6_logs_164 (by decide) ?_
          refine V.goto aX6_logs_165 (tgt := 170) (by decide) ?_
          refine V.dup2 aX6_logs_170 ?_
          refine M.lds aX6_logs_171 (by omega) ?_
          refine V.iconst aX6_logs_172 (by decide) ?_
          refine V.iadd aX6_logs_173 (by omega) ?_
          refine M.sts aX6_logs_174 (by omega) ?_
          refine V.ret aX6_logs_175 rfl (by decide) ?_
          refine PV.of ?_
          unfold logsF logS5
          rw [← l4]
          by_cases hx : mk 1 = 0
          · (rw [if_pos hx, if_pos hx]) <;> first | rfl | (exfalso; omega)
          · (rw [if_neg hx, if_neg hx]) <;> first | rfl | (exfalso; omega)
      · refine V.iconst aX6_logs_141 (by decide) ?_
        refine V.goto aX6_logs_142 (tgt := 155) (by decide) ?_
        refine M.sts aX6_logs_155 (by omega) ?_
        refine V.ald0 aX6_logs_156 ?_
        refine M.gf aX6_logs_157 fl_RX6_7 rfl ?_
        refine V.ild3 aX6_logs_160 ?_
        refine V.if_eq aX6_logs_161 (tgt := 168) (by decide) (fun c161 => ?_) (fun c161 => ?_)
        · refine V.bipush aX6_logs_168 (by decide) (by decide) ?_
          refine V.dup2 aX6_logs_170 ?_
          refine M.lds aX6_logs_171 (by omega) ?_
          refine V.iconst aX6_logs_172 (by decide) ?_
          refine V.iadd aX6_logs_173 (by omega) ?_
          refine M.sts aX6_logs_174 (by omega) ?_
          refine V.ret aX6_logs_175 rfl (by decide) ?_
          refine PV.of ?_
          unfold logsF logS5
          rw [← l4]
          by_cases hx : mk 1 = 0
          · (rw [if_pos hx, if_pos hx]) <;> first | rfl | (exfalso; omega)
          · (rw [if_neg hx, if_neg hx]) <;> first | rfl | (exfalso; omega)
        · refine V.iconst aX6_logs_164 (by decide) ?_
          refine V.goto aX6_logs_165 (tgt := 170) (by decide) ?_
          refine V.dup2 aX6_logs_170 ?_
          refine M.lds aX6_logs_171 (by omega) ?_
          refine V.iconst aX6_logs_172 (by decide) ?_
          refine V.iadd aX6_logs_173 (by omega) ?_
          refine M.sts aX6_logs_174 (by omega) ?_
          refine V.ret aX6_logs_175 rfl (by decide) ?_
          refine PV.of ?_
          unfold logsF logS5
          rw [← l4]
          by_cases hx : mk 1 = 0
          · (rw [if_pos hx, if_pos hx]) <;> first | rfl | (exfalso; omega)
          · (rw [if_neg hx, if_neg hx]) <;> first | rfl | (exfalso; omega)
    · refine V.iconst aX6_logs_122 (by decide) ?_
      refine V.goto aX6_logs_123 (tgt := 127) (by decide) ?_
      refine V.ist3 aX6_logs_127 ?_
      refine V.ald0 aX6_logs_128 ?_
      refine M.gf aX6_logs_129 fl_RX6_7 rfl ?_
      refine V.sipush aX6_logs_132 (by decide) (by decide) ?_
      refine V.ild2 aX6_logs_135 ?_
      refine V.iadd aX6_logs_136 (by omega) ?_
      refine V.ild3 aX6_logs_137 ?_
      refine V.if_eq aX6_logs_138 (tgt := 145) (by decide) (fun c138 => ?_) (fun c138 => ?_)
      · refine V.ald0 aX6_logs_145 ?_
        refine M.gf aX6_logs_146 fl_RX6_7 rfl ?_
        refine V.sipush aX6_logs_149 (by decide) (by decide) ?_
        refine V.ild2 aX6_logs_152 ?_
        refine V.iadd aX6_logs_153 (by omega) ?_
        refine M.lds aX6_logs_154 (by omega) ?_
        refine M.sts aX6_logs_155 (by omega) ?_
        refine V.ald0 aX6_logs_156 ?_
        refine M.gf aX6_logs_157 fl_RX6_7 rfl ?_
        refine V.ild3 aX6_logs_160 ?_
        refine V.if_eq aX6_logs_161 (tgt := 168) (by decide) (fun c161 => ?_) (fun c161 => ?_)
        · refine V.bipush aX6_logs_168 (by decide) (by decide) ?_
          refine V.dup2 aX6_logs_170 ?_
          refine M.lds aX6_logs_171 (by omega) ?_
          refine V.iconst aX6_logs_172 (by decide) ?_
          refine V.iadd aX6_logs_173 (by omega) ?_
          refine M.sts aX6_logs_174 (by omega) ?_
          refine V.ret aX6_logs_175 rfl (by decide) ?_
          refine PV.of ?_
          unfold logsF logS5
          rw [← l4]
          by_cases hx : mk 1 = 0
          · (rw [if_pos hx, if_pos hx]) <;> first | rfl | (exfalso; omega)
          · (rw [if_neg hx, if_neg hx]) <;> first | rfl | (exfalso; omega)
        · refine V.iconst aX6_logs_164 (by decide) ?_
          refine V.goto aX6_logs_165 (tgt := 170) (by decide) ?_
          refine V.dup2 aX6_logs_170 ?_
          refine M.lds aX6_logs_171 (by omega) ?_
          refine V.iconst aX6_logs_172 (by decide) ?_
          refine V.iadd aX6_logs_173 (by omega) ?_
          refine M.sts aX6_logs_174 (by omega) ?_
          refine V.ret aX6_logs_175 rfl (by decide) ?_
          refine PV.of ?_
          unfold logsF logS5
          rw [← l4]
          by_cases hx : mk 1 = 0
          · (rw [if_pos hx, if_pos hx]) <;> first | rfl | (exfalso; omega)
          · (rw [if_neg hx, if_neg hx]) <;> first | rfl | (exfalso; omega)
      · refine V.iconst aX6_logs_141 (by decide) ?_
        refine V.goto aX6_logs_142 (tgt := 155) (by decide) ?_
        refine M.sts aX6_logs_155 (by omega) ?_
        refine V.ald0 aX6_logs_156 ?_
        refine M.gf aX6_logs_157 fl_RX6_7 rfl ?_
        refine V.ild3 aX6_logs_160 ?_
        refine V.if_eq aX6_logs_161 (tgt := 168) (by decide) (fun c161 => ?_) (fun c161 => ?_)
        · refine V.bipush aX6_logs_168 (by decide) (by decide) ?_
          refine V.dup2 aX6_logs_170 ?_
          refine M.lds aX6_logs_171 (by omega) ?_
          refine V.iconst aX6_logs_172 (by decide) ?_
          refine V.iadd aX6_logs_173 (by omega) ?_
          refine M.sts aX6_logs_174 (by omega) ?_
          refine V.ret aX6_logs_175 rfl (by decide) ?_
          refine PV.of ?_
          unfold logsF logS5
          rw [← l4]
          by_cases hx : mk 1 = 0
          · (rw [if_pos hx, if_pos hx]) <;> first | rfl | (exfalso; omega)
          · (rw [if_neg hx, if_neg hx]) <;> first | rfl | (exfalso; omega)
        · refine V.iconst aX6_logs_164 (by decide) ?_
          refine V.goto aX6_logs_165 (tgt := 170) (by decide) ?_
          refine V.dup2 aX6_logs_170 ?_
          refine M.lds aX6_logs_171 (by omega) ?_
          refine V.iconst aX6_logs_172 (by decide) ?_
          refine V.iadd aX6_logs_173 (by omega) ?_
          refine M.sts aX6_logs_174 (by omega) ?_
          refine V.ret aX6_logs_175 rfl (by decide) ?_
          refine PV.of ?_
          unfold logsF logS5
          rw [← l4]
          by_cases hx : mk 1 = 0
          · (rw [if_pos hx, if_pos hx]) <;> first | rfl | (exfalso; omega)
          · (rw [if_neg hx, if_neg hx]) <;> first | rfl | (exfalso; omega)
  have loop2 : ∀ (n : Nat) (k : Int), (12 - k).toNat < n → 0 ≤ k → k ≤ 12 → V G kX6_logs (rmM 6 0 0) (QfM G (PV sz (MM m o (logsF s cl mk) sp pa sv sh ish tx ln cl bf mk st)) 0 0) 81 [some (.inr (some o)), some (.inl (s 3)), some (.inl (mk 0)), some (.inl k)] [] sz (MM m o (cpy cl 0 (cpy mk 0 (upI q 3 (s 3 + 1)) A 17) (8 + 12 * mk 0) k) sp pa sv sh ish tx ln cl bf mk st) 0 0 := by
    intro n
    induction n with
    | zero => intro k h; omega
    | succ n ih =>
      intro k hn hk1 hk2
      refine V.ild3 aX6_logs_81 ?_
      refine V.bipush aX6_logs_82 (by decide) (by decide) ?_
      refine V.icmp_ge aX6_logs_84 (tgt := 113) (by decide) (fun c84 => ?_) (fun c84 => ?_)
      · have ek : k = 12 := by omega
        subst ek
        rw [← hq4]
        exact tail
      · refine V.ald0 aX6_logs_87 ?_
        refine M.gf aX6_logs_88 fl_RX6_7 rfl ?_
        refine V.bipush aX6_logs_91 (by decide) (by decide) ?_
        refine V.bipush aX6_logs_93 (by decide) (by decide) ?_
        refine V.ild2 aX6_logs_95 ?_
        refine V.imul aX6_logs_96 (by omega) ?_
        refine V.iadd aX6_logs_97 (by omega) ?_
        refine V.ild3 aX6_logs_98 ?_
        refine V.iadd aX6_logs_99 (by omega) ?_
        refine V.ald0 aX6_logs_100 ?_
        refine M.gf aX6_logs_101 fl_RX6_26 rfl ?_
        refine V.ild3 aX6_logs_104 ?_
        refine M.ldcl aX6_logs_105 (by omega) ?_
        refine M.sts aX6_logs_106 (by omega) ?_
        refine V.inc3 aX6_logs_107 (by omega) ?_
        refine V.goto aX6_logs_110 (tgt := 81) (by decide) ?_
        rw [cpy_s hk1 (by rw [Int.zero_add]) rfl]
        exact ih (k + 1) (by omega) (by omega) (by omega)
  have loop : ∀ (n : Nat) (k : Int), (17 - k).toNat < n → 0 ≤ k → k ≤ 17 → V G kX6_logs (rmM 6 0 0) (QfM G (PV sz (MM m o (logsF s cl mk) sp pa sv sh ish tx ln cl bf mk st)) 0 0) 49 [some (.inr (some o)), some (.inl (s 3)), some (.inl (mk 0)), some (.inl k)] [] sz (MM m o (cpy mk 0 (upI q 3 (s 3 + 1)) A k) sp pa sv sh ish tx ln cl bf mk st) 0 0 := by
    intro n
    induction n with
    | zero => intro k h; omega
    | succ n ih =>
      intro k hn hk1 hk2
      have x2 : cpy mk 0 (upI q 3 (s 3 + 1)) A k 2 = s 2 + N := by rw [cpy_out (by omega), upI_n (by decide), q2]
      refine V.ild3 aX6_logs_49 ?_
      refine V.bipush aX6_logs_50 (by decide) (by decide) ?_
      refine V.icmp_ge aX6_logs_52 (tgt := 79) (by decide) (fun c52 => ?_) (fun c52 => ?_)
      · rw [show k = 17 by omega]
        refine V.iconst aX6_logs_79 (by decide) ?_
        refine V.ist3 aX6_logs_80 ?_
        refine V.mem (m2 := (MM m o (cpy cl 0 (cpy mk 0 (upI q 3 (s 3 + 1)) A 17) (8 + 12 * mk 0) 0) sp pa sv sh ish tx ln cl bf mk st)) (by rw [cpy_0 (n := 0) (by decide)]) ?_
        exact loop2 _ 0 (Nat.lt_succ_self _) (by decide) (by decide)
      · refine V.ald0 aX6_logs_55 ?_
        refine M.gf aX6_logs_56 fl_RX6_7 rfl ?_
        refine V.ald0 aX6_logs_59 ?_
        refine V.ild1 aX6_logs_60 ?_
        refine call_X6_at aX6_logs_61 gl_RX6_55 (ok_at (by omega) (by omega) (by omega)) (MM_o) (Nat.le_of_ble_eq_true rfl) (by decide) (goI ?_)
        rw [x2]
        refine V.ild3 aX6_logs_64 ?_
        refine V.iadd aX6_logs_65 (by omega) ?_
        refine V.ald0 aX6_logs_66 ?_
        refine M.gf aX6_logs_67 fl_RX6_32 rfl ?_
        refine V.ild3 aX6_logs_70 ?_
        refine M.ldmk aX6_logs_71 (by omega) ?_
        refine M.sts aX6_logs_72 (by omega) ?_
        refine V.inc3 aX6_logs_73 (by omega) ?_
        refine V.goto aX6_logs_76 (tgt := 49) (by decide) ?_
        rw [cpy_s hk1 (by rw [Int.zero_add]) (by omega)]
        exact ih (k + 1) (by omega) (by omega) (by omega)
  refine V.ald0 aX6_logs_0 ?_
  refine V.ald0 aX6_logs_1 ?_
  refine V.ald0 aX6_logs_2 ?_
  refine M.gf aX6_logs_3 fl_RX6_7 rfl ?_
  refine V.iconst aX6_logs_6 (by decide) ?_
  refine M.lds aX6_logs_7 (by omega) ?_
  refine V.ald0 aX6_logs_8 ?_
  refine M.gf aX6_logs_9 fl_RX6_32 rfl ?_
  refine V.iconst aX6_logs_12 (by decide) ?_
  refine call_X6_sizeAt aX6_logs_13 gl_RX6_63 (ok_sizeAt MM_mk (by decide) (by decide) (by decide) (by rw [show (0 : Int) + 3 = 3 from rfl]; omega) (by rw [show (0 : Int) + 3 = 3 from rfl]; omega)) (Nat.le_of_ble_eq_true rfl) (by decide) (goI ?_)
  refine V.isub aX6_logs_16 (by omega) ?_
  refine call_X6_droppable aX6_logs_17 gl_RX6_106 (ok_droppable hN hE (by omega)) (MM_o) (Nat.le_of_ble_eq_true rfl) (by decide) (goI ?_)
  rw [← hNe]
  refine call_X6_drops aX6_logs_20 gl_RX6_112 (ok_drops hN hE (by omega) (by omega)) (MM_o) (Nat.le_of_ble_eq_true rfl) (by decide) (goV ?_)
  rw [← hq]
  refine V.ald0 aX6_logs_23 ?_
  refine M.gf aX6_logs_24 fl_RX6_7 rfl ?_
  refine V.iconst aX6_logs_27 (by decide) ?_
  refine M.lds aX6_logs_28 (by omega) ?_
  rw [q3]
  refine V.ist1 aX6_logs_29 ?_
  refine V.ald0 aX6_logs_30 ?_
  refine M.gf aX6_logs_31 fl_RX6_7 rfl ?_
  refine V.iconst aX6_logs_34 (by decide) ?_
  refine V.dup2 aX6_logs_35 ?_
  refine M.lds aX6_logs_36 (by omega) ?_
  rw [q3]
  refine V.iconst aX6_logs_37 (by decide) ?_
  refine V.iadd aX6_logs_38 (by omega) ?_
  refine M.sts aX6_logs_39 (by omega) ?_
  refine V.ald0 aX6_logs_40 ?_
  refine M.gf aX6_logs_41 fl_RX6_32 rfl ?_
  refine V.iconst aX6_logs_44 (by decide) ?_
  refine M.ldmk aX6_logs_45 (by omega) ?_
  refine V.ist2 aX6_logs_46 ?_
  refine V.iconst aX6_logs_47 (by decide) ?_
  refine V.ist3 aX6_logs_48 ?_
  refine V.mem (m2 := (MM m o (cpy mk 0 (upI q 3 (s 3 + 1)) A 0) sp pa sv sh ish tx ln cl bf mk st)) (by rw [cpy_0 (n := 0) (by decide)]) ?_
  exact loop _ 0 (Nat.lt_succ_self _) (by decide) (by decide)
end

