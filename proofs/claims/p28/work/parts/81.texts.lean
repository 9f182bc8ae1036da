-- texts by hand
def LT0 : List (List Int) := [[2, 100, 0, 0, 0, 0, 0, 0, 0, 0, 0, 0, 0, 0, 0, 0, 0], [0, 0, 0, 0, 0, 0, 0, 0, 0, 0, 0, 0, 0, 0, 0, 0, 0], [0, 0, 0, 0, 0, 0, 0, 0, 0, 0, 0, 0, 0, 0, 0, 0, 0], [0, 0, 0, 0, 0, 0, 0, 0, 0, 0, 0, 0, 0, 0, 0, 0, 0], [0, 0, 0, 0, 0, 0, 0, 0, 0, 0, 0, 0, 0, 0, 0, 0, 0], [0, 0, 0, 0, 0, 0, 0, 0, 0, 0, 0, 0, 0, 0, 0, 0, 0], [0, 0, 0, 0, 0, 0, 0, 0, 0, 0, 0, 0, 0, 0, 0, 0, 0], [0, 0, 0, 0, 0, 0, 0, 0, 0, 0, 0, 0, 0, 0, 0, 0, 0], [0, 0, 0, 0, 0, 0, 0, 0, 0, 0, 0, 0, 0, 0, 0, 0, 0], [0, 0, 0, 0, 0, 0, 0, 0, 0, 0, 0, -5, -5, -5, -5, -5, -5]]
def LT1 : List (List Int) := [[0, 100, 0, 0, 0, 0, 0, 0, 0, 0, 0, 0, 0, 0, 0, 0, 0], [0, 0, 0, 0, 0, 0, 0, 0, 0, 0, 0, 0, 0, 0, 0, 0, 0], [0, 0, 0, 0, 0, 0, 0, 0, 0, 0, 0, 0, 0, 0, 0, 0, 0], [0, 0, 0, 0, 0, 0, 0, 0, 0, 0, 0, 0, 0, 0, 0, 0, 0], [0, 0, 0, 0, 0, 0, 0, 0, 0, 0, 0, 0, 0, 0, 0, 0, 0], [0, 0, 0, 0, 0, 0, 0, 0, 0, 0, 0, 0, 0, 0, 0, 0, 0], [0, 0, 0, 0, 0, 0, 0, 0, 0, 0, 0, 0, 0, 0, 0, 0, 0], [0, 0, 0, 0, 0, 0, 0, 0, 0, 0, 0, 0, 0, 0, 0, 0, 0], [0, 0, 0, 0, 0, 0, 0, 0, 0, 0, 0, 0, 0, 0, 0, 0, 0], [0, 0, 0, 0, 0, 0, 0, 0, 0, 0, 0, -5, -5, -5, -5, -5, -5]]
def LT2 : List (List Int) := [[0, 100, 0, 3, 0, 1, 2, 0, 0, 0, 0, 4, 0, 5, 0, 0, 0], [0, 0, 0, 0, 0, 0, 0, 0, 0, 0, 0, 0, 0, 0, 0, 0, 0], [0, 0, 0, 0, 0, 0, 0, 0, 0, 0, 0, 0, 0, 0, 0, 0, 0], [0, 0, 0, 0, 0, 0, 0, 0, 0, 0, 0, 0, 0, 0, 0, 0, 0], [0, 0, 0, 0, 0, 0, 0, 0, 0, 0, 0, 0, 0, 0, 0, 0, 0], [0, 0, 0, 0, 0, 0, 0, 0, 0, 0, 0, 0, 0, 0, 0, 0, 0], [0, 0, 0, 0, 0, 0, 0, 0, 0, 0, 0, 0, 0, 0, 0, 0, 0], [0, 0, 0, 0, 0, 0, 0, 0, 0, 0, 0, 0, 0, 0, 0, 0, 0], [0, 0, 0, 0, 0, 0, 0, 0, 0, 0, 0, 0, 0, 0, 0, 0, 0], [0, 0, 0, 0, 0, 0, 0, 0, 0, 0, 0, -5, -5, -5, -5, -5, -5], [0, 4, 1, 4, 0, 4, 0, 5, 0, 0, 0, 0, 0, 0, 0, 0, 0], [1, 0, 0, 12, 0, 0, 0, 0, 0, 0, 0, 0, 0, 0, 0, 0, 0], [0, 3, 0, 12, 0, 2, 0, 0, 0, 0, 0, 0, 0, 0, 0, 0, 0]]
def LT3 : List (List Int) := [[0, 30, 0, 3, 0, 1, 2, 0, 0, 0, 0, 4, 0, 5, 0, 0, 0], [0, 0, 0, 0, 0, 0, 0, 0, 0, 0, 0, 0, 0, 0, 0, 0, 0], [0, 0, 0, 0, 0, 0, 0, 0, 0, 0, 0, 0, 0, 0, 0, 0, 0], [0, 0, 0, 0, 0, 0, 0, 0, 0, 0, 0, 0, 0, 0, 0, 0, 0], [0, 0, 0, 0, 0, 0, 0, 0, 0, 0, 0, 0, 0, 0, 0, 0, 0], [0, 0, 0, 0, 0, 0, 0, 0, 0, 0, 0, 0, 0, 0, 0, 0, 0], [0, 0, 0, 0, 0, 0, 0, 0, 0, 0, 0, 0, 0, 0, 0, 0, 0], [0, 0, 0, 0, 0, 0, 0, 0, 0, 0, 0, 0, 0, 0, 0, 0, 0], [0, 0, 0, 0, 0, 0, 0, 0, 0, 0, 0, 0, 0, 0, 0, 0, 0], [0, 0, 0, 0, 0, 0, 0, 0, 0, 0, 0, -5, -5, -5, -5, -5, -5], [0, 4, 1, 4, 0, 4, 0, 5, 0, 0, 0, 0, 0, 0, 0, 0, 0], [1, 0, 0, 12, 0, 0, 0, 0, 0, 0, 0, 0, 0, 0, 0, 0, 0], [0, 3, 0, 12, 0, 2, 0, 0, 0, 0, 0, 0, 0, 0, 0, 0, 0]]
def LT4 : List (List Int) := [[0, 30, 0, 6, 0, 2, 4, 0, 0, 0, 0, 4, 0, 5, 0, 5, 0], [0, 0, 0, 0, 0, 0, 0, 0, 0, 0, 0, 0, 0, 0, 0, 0, 0], [0, 0, 0, 0, 0, 0, 0, 0, 0, 0, 0, 0, 0, 0, 0, 0, 0], [0, 0, 0, 0, 0, 0, 0, 0, 0, 0, 0, 0, 0, 0, 0, 0, 0], [0, 0, 0, 0, 0, 0, 0, 0, 0, 0, 0, 0, 0, 0, 0, 0, 0], [0, 0, 0, 0, 0, 0, 0, 0, 0, 0, 0, 0, 0, 0, 0, 0, 0], [0, 0, 0, 0, 0, 0, 0, 0, 0, 0, 0, 0, 0, 0, 0, 0, 0], [0, 0, 0, 0, 0, 0, 0, 0, 0, 0, 0, 0, 0, 0, 0, 0, 0], [0, 0, 0, 0, 0, 0, 0, 0, 0, 0, 0, 0, 0, 0, 0, 0, 0], [0, 0, 0, 0, 0, 0, 0, 0, 0, 0, 0, -5, -5, -5, -5, -5, -5], [0, 4, 1, 4, 0, 4, 0, 5, 0, 0, 0, 0, 0, 0, 0, 0, 0], [1, 0, 0, 12, 0, 0, 0, 0, 0, 0, 0, 0, 0, 0, 0, 0, 0], [0, 3, 0, 12, 0, 2, 0, 0, 0, 0, 0, 0, 0, 0, 0, 0, 0], [0, 4, 1, 4, 0, 4, 0, 5, 0, 0, 0, 0, 0, 0, 0, 0, 0], [1, 0, 0, 12, 0, 0, 0, 0, 0, 0, 0, 0, 0, 0, 0, 0, 0], [0, 3, 0, 12, 0, 2, 0, 0, 0, 0, 0, 0, 0, 0, 0, 0, 0]]
section
variable {G : GX} {Qf : QF} {X : Nat} {h0 : Int → Int}
theorem lf_s0 {sz : Nat} {m : Mem} (ht : m G.2.2.2 = iar 0 h0) (hl : G.2.2.2 < G.2.2.1) (K : ∀ (z : Nat) (m' : Mem), m' G.2.2.2 = iar 0 h0 → Vw G kL_texts (rmM 9 8000 100000) Qf 62 [none, none] [] z m' 1584 19614) : Vw G kL_texts (rmM 9 8000 100000) Qf 0 [none, none] [] sz m 0 0 := by
  refine Vw.lconst aL_texts_0 rfl ?_
  refine Vw.lconst aL_texts_1 rfl ?_
  refine cd_fault (f := 0) ht hl aL_texts_2 gl_RL_121 (okw_faultF (t1 := []) (t2 := []) ht hl (by decide +kernel) (by decide +kernel) (by decide +kernel) (by decide +kernel) (by decide)) (Nat.le_of_ble_eq_true rfl) (by decide) (fun z m ht => ?_)
  refine Vw.if_ne aL_texts_5 (tgt := 143) (by decide) (fun c => absurd c (by decide)) (fun _ => ?_)
  refine Vw.ldc2 aL_texts_8 gq_RL_125 ?_
  refine Vw.lconst aL_texts_11 rfl ?_
  refine cd_fault (f := 0) ht hl aL_texts_12 gl_RL_121 (okw_faultF (t1 := [112, 54]) (t2 := [112, 54]) ht hl (by decide +kernel) (by decide +kernel) (by decide +kernel) (by decide +kernel) (by decide)) (Nat.le_of_ble_eq_true rfl) (by decide) (fun z m ht => ?_)
  refine Vw.if_ne aL_texts_15 (tgt := 143) (by decide) (fun c => absurd c (by decide)) (fun _ => ?_)
  refine Vw.ldc2 aL_texts_18 gq_RL_127 ?_
  refine Vw.lconst aL_texts_21 rfl ?_
  refine cd_fault (f := 1) ht hl aL_texts_22 gl_RL_121 (okw_faultF (t1 := [48]) (t2 := [48]) ht hl (by decide +kernel) (by decide +kernel) (by decide +kernel) (by decide +kernel) (by decide)) (Nat.le_of_ble_eq_true rfl) (by decide) (fun z m ht => ?_)
  refine Vw.iconst aL_texts_25 (by decide) ?_
  refine Vw.icmp_ne aL_texts_26 (tgt := 143) (by decide) (fun c => absurd c (by decide)) (fun _ => ?_)
  refine Vw.ldc2 aL_texts_29 gq_RL_129 ?_
  refine Vw.lconst aL_texts_32 rfl ?_
  refine cd_fault (f := 1) ht hl aL_texts_33 gl_RL_121 (okw_faultF (t1 := [120, 48]) (t2 := [120, 48]) ht hl (by decide +kernel) (by decide +kernel) (by decide +kernel) (by decide +kernel) (by decide)) (Nat.le_of_ble_eq_true rfl) (by decide) (fun z m ht => ?_)
  refine Vw.iconst aL_texts_36 (by decide) ?_
  refine Vw.icmp_ne aL_texts_37 (tgt := 143) (by decide) (fun c => absurd c (by decide)) (fun _ => ?_)
  refine Vw.ldc2 aL_texts_40 gq_RL_131 ?_
  refine Vw.lconst aL_texts_43 rfl ?_
  refine cd_fault (f := (-1)) ht hl aL_texts_44 gl_RL_121 (okw_faultN (t1 := [112, 48]) (t2 := [112, 48]) ht hl (by decide +kernel) (by decide +kernel) (by decide +kernel) (by decide +kernel)) (Nat.le_of_ble_eq_true rfl) (by decide) (fun z m ht => ?_)
  refine Vw.iconst aL_texts_47 (by decide) ?_
  refine Vw.icmp_ne aL_texts_48 (tgt := 143) (by decide) (fun c => absurd c (by decide)) (fun _ => ?_)
  refine Vw.ldc2 aL_texts_51 gq_RL_133 ?_
  refine Vw.lconst aL_texts_54 rfl ?_
  refine cd_fault (f := 2) ht hl aL_texts_55 gl_RL_121 (okw_faultF (t1 := [102, 48]) (t2 := [102, 48]) ht hl (by decide +kernel) (by decide +kernel) (by decide +kernel) (by decide +kernel) (by decide)) (Nat.le_of_ble_eq_true rfl) (by decide) (fun z m ht => ?_)
  refine Vw.iconst aL_texts_58 (by decide) ?_
  refine Vw.icmp_ne aL_texts_59 (tgt := 143) (by decide) (fun c => absurd c (by decide)) (fun _ => ?_)
  exact K _ _ ht
theorem lf_s1 {sz : Nat} {m : Mem} (ht : m G.2.2.2 = iar 0 h0) (hl : G.2.2.2 < G.2.2.1) (K : ∀ (z : Nat) (m' : Mem), m' G.2.2.2 = iar 0 h0 → Vw G kL_texts (rmM 9 8000 100000) Qf 132 [none, none] [] z m' 3168 39228) : Vw G kL_texts (rmM 9 8000 100000) Qf 62 [none, none] [] sz m 1584 19614 := by
  refine Vw.ldc2 aL_texts_62 gq_RL_135 ?_
  refine Vw.lconst aL_texts_65 rfl ?_
  refine cd_fault (f := 3) ht hl aL_texts_66 gl_RL_121 (okw_faultF (t1 := [53, 102, 48]) (t2 := [53, 102, 48]) ht hl (by decide +kernel) (by decide +kernel) (by decide +kernel) (by decide +kernel) (by decide)) (Nat.le_of_ble_eq_true rfl) (by decide) (fun z m ht => ?_)
  refine Vw.iconst aL_texts_69 (by decide) ?_
  refine Vw.icmp_ne aL_texts_70 (tgt := 143) (by decide) (fun c => absurd c (by decide)) (fun _ => ?_)
  refine Vw.ldc2 aL_texts_73 gq_RL_137 ?_
  refine Vw.lconst aL_texts_76 rfl ?_
  refine cd_fault (f := 4) ht hl aL_texts_77 gl_RL_121 (okw_faultF (t1 := [49, 61, 51, 45, 53, 102, 48]) (t2 := [49, 61, 51, 45, 53, 102, 48]) ht hl (by decide +kernel) (by decide +kernel) (by decide +kernel) (by decide +kernel) (by decide)) (Nat.le_of_ble_eq_true rfl) (by decide) (fun z m ht => ?_)
  refine Vw.iconst aL_texts_80 (by decide) ?_
  refine Vw.icmp_ne aL_texts_81 (tgt := 143) (by decide) (fun c => absurd c (by decide)) (fun _ => ?_)
  refine Vw.ldc2 aL_texts_84 gq_RL_139 ?_
  refine Vw.lconst aL_texts_87 rfl ?_
  refine cd_fault (f := (-1)) ht hl aL_texts_88 gl_RL_121 (okw_faultN (t1 := [53, 61, 48, 49, 45, 49, 102, 48]) (t2 := [53, 61, 48, 49, 45, 49, 102, 48]) ht hl (by decide +kernel) (by decide +kernel) (by decide +kernel) (by decide +kernel)) (Nat.le_of_ble_eq_true rfl) (by decide) (fun z m ht => ?_)
  refine Vw.iconst aL_texts_91 (by decide) ?_
  refine Vw.icmp_ne aL_texts_92 (tgt := 143) (by decide) (fun c => absurd c (by decide)) (fun _ => ?_)
  refine Vw.ldc2 aL_texts_95 gq_RL_141 ?_
  refine Vw.ldc2 aL_texts_98 gq_RL_143 ?_
  refine cd_fault (f := 6) ht hl aL_texts_101 gl_RL_121 (okw_faultF (t1 := [61, 48, 49, 45, 49, 49, 102, 48]) (t2 := [53, 61, 48, 49, 45, 49, 49, 102, 48]) ht hl (by decide +kernel) (by decide +kernel) (by decide +kernel) (by decide +kernel) (by decide)) (Nat.le_of_ble_eq_true rfl) (by decide) (fun z m ht => ?_)
  refine Vw.bipush aL_texts_104 (by decide) (by decide) ?_
  refine Vw.icmp_ne aL_texts_106 (tgt := 143) (by decide) (fun c => absurd c (by decide)) (fun _ => ?_)
  refine Vw.ldc2 aL_texts_109 gq_RL_145 ?_
  refine Vw.lconst aL_texts_112 rfl ?_
  refine cd_fault (f := 3) ht hl aL_texts_113 gl_RL_121 (okw_faultF (t1 := [49, 61, 54, 45, 53, 48, 102, 48]) (t2 := [49, 61, 54, 45, 53, 48, 102, 48]) ht hl (by decide +kernel) (by decide +kernel) (by decide +kernel) (by decide +kernel) (by decide)) (Nat.le_of_ble_eq_true rfl) (by decide) (fun z m ht => ?_)
  refine Vw.iconst aL_texts_116 (by decide) ?_
  refine Vw.icmp_ne aL_texts_117 (tgt := 143) (by decide) (fun c => absurd c (by decide)) (fun _ => ?_)
  refine Vw.ldc2 aL_texts_120 gq_RL_147 ?_
  refine Vw.lconst aL_texts_123 rfl ?_
  refine cd_fault (f := 6) ht hl aL_texts_124 gl_RL_121 (okw_faultF (t1 := [48, 43, 49, 45, 48, 97, 48]) (t2 := [48, 43, 49, 45, 48, 97, 48]) ht hl (by decide +kernel) (by decide +kernel) (by decide +kernel) (by decide +kernel) (by decide)) (Nat.le_of_ble_eq_true rfl) (by decide) (fun z m ht => ?_)
  refine Vw.bipush aL_texts_127 (by decide) (by decide) ?_
  refine Vw.icmp_ne aL_texts_129 (tgt := 143) (by decide) (fun c => absurd c (by decide)) (fun _ => ?_)
  exact K _ _ ht
theorem lf_s2 {sz : Nat} {m : Mem} (ht : m G.2.2.2 = iar 0 h0) (hl : G.2.2.2 < G.2.2.1) (K : ∀ (z : Nat) (m' : Mem), m' G.2.2.2 = iar 0 h0 → Vw G kL_texts (rmM 9 8000 100000) Qf 201 [none, none] [] z m' 4752 58842) : Vw G kL_texts (rmM 9 8000 100000) Qf 132 [none, none] [] sz m 3168 39228 := by
  refine Vw.ldc2 aL_texts_132 gq_RL_149 ?_
  refine Vw.lconst aL_texts_135 rfl ?_
  refine cd_fault (f := (-1)) ht hl aL_texts_136 gl_RL_121 (okw_faultN (t1 := [57, 43, 49, 45, 48, 97, 48]) (t2 := [57, 43, 49, 45, 48, 97, 48]) ht hl (by decide +kernel) (by decide +kernel) (by decide +kernel) (by decide +kernel)) (Nat.le_of_ble_eq_true rfl) (by decide) (fun z m ht => ?_)
  refine Vw.iconst aL_texts_139 (by decide) ?_
  refine Vw.icmp_eq aL_texts_140 (tgt := 145) (by decide) (fun _ => ?_) (fun c => absurd c (by decide))
  refine Vw.ldc2 aL_texts_145 gq_RL_151 ?_
  refine Vw.lconst aL_texts_148 rfl ?_
  refine cd_fault (f := 2) ht hl aL_texts_149 gl_RL_121 (okw_faultF (t1 := [48, 116, 48]) (t2 := [48, 116, 48]) ht hl (by decide +kernel) (by decide +kernel) (by decide +kernel) (by decide +kernel) (by decide)) (Nat.le_of_ble_eq_true rfl) (by decide) (fun z m ht => ?_)
  refine Vw.iconst aL_texts_152 (by decide) ?_
  refine Vw.icmp_ne aL_texts_153 (tgt := 280) (by decide) (fun c => absurd c (by decide)) (fun _ => ?_)
  refine Vw.ldc2 aL_texts_156 gq_RL_153 ?_
  refine Vw.lconst aL_texts_159 rfl ?_
  refine cd_fault (f := 3) ht hl aL_texts_160 gl_RL_121 (okw_faultF (t1 := [50, 49, 116, 48]) (t2 := [50, 49, 116, 48]) ht hl (by decide +kernel) (by decide +kernel) (by decide +kernel) (by decide +kernel) (by decide)) (Nat.le_of_ble_eq_true rfl) (by decide) (fun z m ht => ?_)
  refine Vw.iconst aL_texts_163 (by decide) ?_
  refine Vw.icmp_ne aL_texts_164 (tgt := 280) (by decide) (fun c => absurd c (by decide)) (fun _ => ?_)
  refine Vw.ldc2 aL_texts_167 gq_RL_155 ?_
  refine Vw.lconst aL_texts_170 rfl ?_
  refine cd_fault (f := (-1)) ht hl aL_texts_171 gl_RL_121 (okw_faultN (t1 := [49, 49, 116, 48]) (t2 := [49, 49, 116, 48]) ht hl (by decide +kernel) (by decide +kernel) (by decide +kernel) (by decide +kernel)) (Nat.le_of_ble_eq_true rfl) (by decide) (fun z m ht => ?_)
  refine Vw.iconst aL_texts_174 (by decide) ?_
  refine Vw.icmp_ne aL_texts_175 (tgt := 280) (by decide) (fun c => absurd c (by decide)) (fun _ => ?_)
  refine Vw.ldc2 aL_texts_178 gq_RL_157 ?_
  refine Vw.lconst aL_texts_181 rfl ?_
  refine cd_fault (f := 7) ht hl aL_texts_182 gl_RL_121 (okw_faultF (t1 := [51, 50, 49, 61, 48, 49, 114, 48]) (t2 := [51, 50, 49, 61, 48, 49, 114, 48]) ht hl (by decide +kernel) (by decide +kernel) (by decide +kernel) (by decide +kernel) (by decide)) (Nat.le_of_ble_eq_true rfl) (by decide) (fun z m ht => ?_)
  refine Vw.bipush aL_texts_185 (by decide) (by decide) ?_
  refine Vw.icmp_ne aL_texts_187 (tgt := 280) (by decide) (fun c => absurd c (by decide)) (fun _ => ?_)
  refine Vw.ldc2 aL_texts_190 gq_RL_159 ?_
  refine Vw.lconst aL_texts_193 rfl ?_
  refine cd_fault (f := 4) ht hl aL_texts_194 gl_RL_121 (okw_faultF (t1 := [61, 51, 114, 48]) (t2 := [61, 51, 114, 48]) ht hl (by decide +kernel) (by decide +kernel) (by decide +kernel) (by decide +kernel) (by decide)) (Nat.le_of_ble_eq_true rfl) (by decide) (fun z m ht => ?_)
  refine Vw.iconst aL_texts_197 (by decide) ?_
  refine Vw.icmp_ne aL_texts_198 (tgt := 280) (by decide) (fun c => absurd c (by decide)) (fun _ => ?_)
  exact K _ _ ht
theorem lf_s3 {sz : Nat} {m : Mem} (ht : m G.2.2.2 = iar 0 h0) (hl : G.2.2.2 < G.2.2.1) (K : ∀ (z : Nat) (m' : Mem), m' G.2.2.2 = iar 0 h0 → Vw G kL_texts (rmM 9 8000 100000) Qf 269 [none, none] [] z m' 6336 78456) : Vw G kL_texts (rmM 9 8000 100000) Qf 201 [none, none] [] sz m 4752 58842 := by
  refine Vw.ldc2 aL_texts_201 gq_RL_161 ?_
  refine Vw.lconst aL_texts_204 rfl ?_
  refine cd_fault (f := (-1)) ht hl aL_texts_205 gl_RL_121 (okw_faultN (t1 := [51, 50, 49, 48, 61, 48, 114, 48]) (t2 := [51, 50, 49, 48, 61, 48, 114, 48]) ht hl (by decide +kernel) (by decide +kernel) (by decide +kernel) (by decide +kernel)) (Nat.le_of_ble_eq_true rfl) (by decide) (fun z m ht => ?_)
  refine Vw.iconst aL_texts_208 (by decide) ?_
  refine Vw.icmp_ne aL_texts_209 (tgt := 280) (by decide) (fun c => absurd c (by decide)) (fun _ => ?_)
  refine Vw.ldc2 aL_texts_212 gq_RL_163 ?_
  refine Vw.lconst aL_texts_215 rfl ?_
  refine cd_fault (f := 3) ht hl aL_texts_216 gl_RL_121 (okw_faultF (t1 := [59, 112, 48]) (t2 := [59, 112, 48]) ht hl (by decide +kernel) (by decide +kernel) (by decide +kernel) (by decide +kernel) (by decide)) (Nat.le_of_ble_eq_true rfl) (by decide) (fun z m ht => ?_)
  refine Vw.iconst aL_texts_219 (by decide) ?_
  refine Vw.icmp_ne aL_texts_220 (tgt := 280) (by decide) (fun c => absurd c (by decide)) (fun _ => ?_)
  refine Vw.ldc2 aL_texts_223 gq_RL_165 ?_
  refine Vw.lconst aL_texts_226 rfl ?_
  refine cd_fault (f := 2) ht hl aL_texts_227 gl_RL_121 (okw_faultF (t1 := [112, 48, 112, 48]) (t2 := [112, 48, 112, 48]) ht hl (by decide +kernel) (by decide +kernel) (by decide +kernel) (by decide +kernel) (by decide)) (Nat.le_of_ble_eq_true rfl) (by decide) (fun z m ht => ?_)
  refine Vw.iconst aL_texts_230 (by decide) ?_
  refine Vw.icmp_ne aL_texts_231 (tgt := 280) (by decide) (fun c => absurd c (by decide)) (fun _ => ?_)
  refine Vw.ldc2 aL_texts_234 gq_RL_167 ?_
  refine Vw.lconst aL_texts_237 rfl ?_
  refine cd_fault (f := 3) ht hl aL_texts_238 gl_RL_121 (okw_faultF (t1 := [49, 61, 50, 45, 50, 49, 102, 48]) (t2 := [49, 61, 50, 45, 50, 49, 102, 48]) ht hl (by decide +kernel) (by decide +kernel) (by decide +kernel) (by decide +kernel) (by decide)) (Nat.le_of_ble_eq_true rfl) (by decide) (fun z m ht => ?_)
  refine Vw.iconst aL_texts_241 (by decide) ?_
  refine Vw.icmp_ne aL_texts_242 (tgt := 280) (by decide) (fun c => absurd c (by decide)) (fun _ => ?_)
  refine Vw.ldc2 aL_texts_245 gq_RL_169 ?_
  refine Vw.lconst aL_texts_248 rfl ?_
  refine cd_fault (f := 8) ht hl aL_texts_249 gl_RL_121 (okw_faultF (t1 := [51, 59, 49, 116, 53, 59, 112, 48]) (t2 := [51, 59, 49, 116, 53, 59, 112, 48]) ht hl (by decide +kernel) (by decide +kernel) (by decide +kernel) (by decide +kernel) (by decide)) (Nat.le_of_ble_eq_true rfl) (by decide) (fun z m ht => ?_)
  refine Vw.bipush aL_texts_252 (by decide) (by decide) ?_
  refine Vw.icmp_ne aL_texts_254 (tgt := 280) (by decide) (fun c => absurd c (by decide)) (fun _ => ?_)
  refine Vw.ldc2 aL_texts_257 gq_RL_171 ?_
  refine Vw.lconst aL_texts_260 rfl ?_
  refine cd_fault (f := 8) ht hl aL_texts_261 gl_RL_121 (okw_faultF (t1 := [59, 49, 61, 48, 45, 48, 102, 48]) (t2 := [59, 49, 61, 48, 45, 48, 102, 48]) ht hl (by decide +kernel) (by decide +kernel) (by decide +kernel) (by decide +kernel) (by decide)) (Nat.le_of_ble_eq_true rfl) (by decide) (fun z m ht => ?_)
  refine Vw.bipush aL_texts_264 (by decide) (by decide) ?_
  refine Vw.icmp_ne aL_texts_266 (tgt := 280) (by decide) (fun c => absurd c (by decide)) (fun _ => ?_)
  exact K _ _ ht
theorem lf_s4 {sz : Nat} {m : Mem} (ht : m G.2.2.2 = iar 0 h0) (hl : G.2.2.2 < G.2.2.1) (K : ∀ (z : Nat) (m' : Mem), m' G.2.2.2 = iar 0 h0 → Vw G kL_texts (rmM 9 8000 100000) Qf 282 [none, none] [] z m' 6600 81725) : Vw G kL_texts (rmM 9 8000 100000) Qf 269 [none, none] [] sz m 6336 78456 := by
  refine Vw.ldc2 aL_texts_269 gq_RL_173 ?_
  refine Vw.lconst aL_texts_272 rfl ?_
  refine cd_fault (f := 4) ht hl aL_texts_273 gl_RL_121 (okw_faultF (t1 := [51, 61, 49, 45, 50, 102, 48]) (t2 := [51, 61, 49, 45, 50, 102, 48]) ht hl (by decide +kernel) (by decide +kernel) (by decide +kernel) (by decide +kernel) (by decide)) (Nat.le_of_ble_eq_true rfl) (by decide) (fun z m ht => ?_)
  refine Vw.iconst aL_texts_276 (by decide) ?_
  refine Vw.icmp_eq aL_texts_277 (tgt := 282) (by decide) (fun _ => ?_) (fun c => absurd c (by decide))
  exact K _ _ ht
theorem lt_s0 {sz : Nat} {m : Mem} (kd : KD G m sz X 0 LT0 0 0 (fun _ => 0) 0) (K : ∀ (z : Nat) (m' : Mem), KD G m' z X 21 LT2 2 0 (txr [50, 116, 48, 59, 112, 49, 59, 48, 53, 48, 52, 61, 49, 114, 48]) (([50, 116, 48, 59, 112, 49, 59, 48, 53, 48, 52, 61, 49, 114, 48] : List Int).length : Int) → Vw G kL_texts (rmM 9 8000 100000) Qf 380 [some (wr (some X)), none] [] z m' 6864 84994) : Vw G kL_texts (rmM 9 8000 100000) Qf 290 [some (wr (some X)), none] [] sz m 6757 83876 := by
  refine Vw.ald0 aL_texts_290 ?_
  refine Vw.iconst aL_texts_291 (by decide) ?_
  refine cd_setWay kd aL_texts_292 gl_RL_47 (v := 2) (LN := LT1) (sv2 := 1) (by decide) (by decide) (by decide +kernel) (by decide +kernel) (by decide +kernel) (Nat.le_of_ble_eq_true rfl) (by decide) (fun z m' kd => ?_)
  refine Vw.iconst aL_texts_295 (by decide) ?_
  refine Vw.icmp_ne aL_texts_296 (tgt := 432) (by decide) (fun c => absurd c (by decide)) (fun _ => ?_)
  refine Vw.ald0 aL_texts_299 ?_
  refine Vw.ldc2 aL_texts_300 gq_RL_175 ?_
  refine cd_types (t := []) (t2 := [48, 53, 48, 52, 61, 49, 114, 48]) kd aL_texts_303 gl_RL_114 (by decide) (by decide +kernel) (Nat.le_of_ble_eq_true rfl) (by decide) (fun z m' kd => ?_)
  refine Vw.if_eq aL_texts_306 (tgt := 432) (by decide) (fun c => absurd c (by decide)) (fun _ => ?_)
  refine Vw.ald0 aL_texts_309 ?_
  refine Vw.ldc2 aL_texts_310 gq_RL_177 ?_
  refine cd_types (t := [48, 53, 48, 52, 61, 49, 114, 48]) (t2 := [50, 116, 48, 59, 112, 49, 59, 48, 53, 48, 52, 61, 49, 114, 48]) kd aL_texts_313 gl_RL_114 (by decide) (by decide +kernel) (Nat.le_of_ble_eq_true rfl) (by decide) (fun z m' kd => ?_)
  refine Vw.if_eq aL_texts_316 (tgt := 432) (by decide) (fun c => absurd c (by decide)) (fun _ => ?_)
  refine Vw.ald0 aL_texts_319 ?_
  refine Vw.bipush aL_texts_320 (by decide) (by decide) ?_
  refine cd_count kd aL_texts_322 gl_RL_13 (v := 15) (by decide +kernel) (Nat.le_of_ble_eq_true rfl) (by decide) ?_
  refine Vw.bipush aL_texts_325 (by decide) (by decide) ?_
  refine Vw.icmp_ne aL_texts_327 (tgt := 432) (by decide) (fun c => absurd c (by decide)) (fun _ => ?_)
  refine Vw.ald0 aL_texts_330 ?_
  refine cd_orders kd aL_texts_331 gl_RL_118 (v := 1) (LN := LT2) (sv2 := 2) (by decide) (by decide) (by decide +kernel) (by decide +kernel) (Nat.le_of_ble_eq_true rfl) (by decide) (fun z m' kd => ?_)
  refine Vw.iconst aL_texts_334 (by decide) ?_
  refine Vw.icmp_ne aL_texts_335 (tgt := 432) (by decide) (fun c => absurd c (by decide)) (fun _ => ?_)
  refine Vw.ald0 aL_texts_338 ?_
  refine Vw.bipush aL_texts_339 (by decide) (by decide) ?_
  refine cd_count kd aL_texts_341 gl_RL_13 (v := 2) (by decide +kernel) (Nat.le_of_ble_eq_true rfl) (by decide) ?_
  refine Vw.iconst aL_texts_344 (by decide) ?_
  refine Vw.icmp_ne aL_texts_345 (tgt := 432) (by decide) (fun c => absurd c (by decide)) (fun _ => ?_)
  refine Vw.ald0 aL_texts_348 ?_
  refine Vw.bipush aL_texts_349 (by decide) (by decide) ?_
  refine cd_count kd aL_texts_351 gl_RL_13 (v := 15) (by decide +kernel) (Nat.le_of_ble_eq_true rfl) (by decide) ?_
  refine Vw.bipush aL_texts_354 (by decide) (by decide) ?_
  refine Vw.icmp_ne aL_texts_356 (tgt := 432) (by decide) (fun c => absurd c (by decide)) (fun _ => ?_)
  refine Vw.ald0 aL_texts_359 ?_
  refine Vw.iconst aL_texts_360 (by decide) ?_
  refine Vw.ldc2 aL_texts_361 gq_RL_179 ?_
  refine cd_isPage kd aL_texts_364 gl_RL_95 (by decide) (by decide +kernel) (Nat.le_of_ble_eq_true rfl) (by decide) ?_
  refine Vw.if_eq aL_texts_367 (tgt := 432) (by decide) (fun c => absurd c (by decide)) (fun _ => ?_)
  refine Vw.ald0 aL_texts_370 ?_
  refine Vw.iconst aL_texts_371 (by decide) ?_
  refine Vw.iconst aL_texts_372 (by decide) ?_
  refine cd_entry kd aL_texts_373 gl_RL_29 (v := 4) (by decide +kernel) (by decide +kernel) (Nat.le_of_ble_eq_true rfl) (by decide) ?_
  refine Vw.iconst aL_texts_376 (by decide) ?_
  refine Vw.icmp_ne aL_texts_377 (tgt := 432) (by decide) (fun c => absurd c (by decide)) (fun _ => ?_)
  exact K _ _ kd
theorem lt_s1 {sz : Nat} {m : Mem} (kd : KD G m sz X 21 LT2 2 0 (txr [50, 116, 48, 59, 112, 49, 59, 48, 53, 48, 52, 61, 49, 114, 48]) (([50, 116, 48, 59, 112, 49, 59, 48, 53, 48, 52, 61, 49, 114, 48] : List Int).length : Int)) (K : ∀ (z : Nat) (m' : Mem), KD G m' z X 42 LT4 4 0 (txr [50, 116, 48, 59, 112, 49, 59, 48, 53, 48, 52, 61, 49, 114, 48]) (([50, 116, 48, 59, 112, 49, 59, 48, 53, 48, 52, 61, 49, 114, 48] : List Int).length : Int) → Vw G kL_texts (rmM 9 8000 100000) Qf 463 [some (wr (some X)), none] [] z m' 6971 86112) : Vw G kL_texts (rmM 9 8000 100000) Qf 380 [some (wr (some X)), none] [] sz m 6864 84994 := by
  refine Vw.ald0 aL_texts_380 ?_
  refine Vw.iconst aL_texts_381 (by decide) ?_
  refine Vw.iconst aL_texts_382 (by decide) ?_
  refine cd_entry kd aL_texts_383 gl_RL_29 (v := 7) (by decide +kernel) (by decide +kernel) (Nat.le_of_ble_eq_true rfl) (by decide) ?_
  refine Vw.bipush aL_texts_386 (by decide) (by decide) ?_
  refine Vw.icmp_ne aL_texts_388 (tgt := 432) (by decide) (fun c => absurd c (by decide)) (fun _ => ?_)
  refine Vw.ald0 aL_texts_391 ?_
  refine Vw.iconst aL_texts_392 (by decide) ?_
  refine Vw.iconst aL_texts_393 (by decide) ?_
  refine cd_entry kd aL_texts_394 gl_RL_29 (v := 11) (by decide +kernel) (by decide +kernel) (Nat.le_of_ble_eq_true rfl) (by decide) ?_
  refine Vw.bipush aL_texts_397 (by decide) (by decide) ?_
  refine Vw.icmp_ne aL_texts_399 (tgt := 432) (by decide) (fun c => absurd c (by decide)) (fun _ => ?_)
  refine Vw.ald0 aL_texts_402 ?_
  refine Vw.iconst aL_texts_403 (by decide) ?_
  refine Vw.iconst aL_texts_404 (by decide) ?_
  refine cd_entry kd aL_texts_405 gl_RL_29 (v := 0) (by decide +kernel) (by decide +kernel) (Nat.le_of_ble_eq_true rfl) (by decide) ?_
  refine Vw.if_ne aL_texts_408 (tgt := 432) (by decide) (fun c => absurd c (by decide)) (fun _ => ?_)
  refine Vw.ald0 aL_texts_411 ?_
  refine Vw.iconst aL_texts_412 (by decide) ?_
  refine Vw.iconst aL_texts_413 (by decide) ?_
  refine cd_entry kd aL_texts_414 gl_RL_29 (v := 3) (by decide +kernel) (by decide +kernel) (Nat.le_of_ble_eq_true rfl) (by decide) ?_
  refine Vw.iconst aL_texts_417 (by decide) ?_
  refine Vw.icmp_ne aL_texts_418 (tgt := 432) (by decide) (fun c => absurd c (by decide)) (fun _ => ?_)
  refine Vw.ald0 aL_texts_421 ?_
  refine Vw.iconst aL_texts_422 (by decide) ?_
  refine Vw.iconst aL_texts_423 (by decide) ?_
  refine cd_page kd aL_texts_424 gl_RL_26 (v := 31) (by decide) (by decide +kernel) (Nat.le_of_ble_eq_true rfl) (by decide) ?_
  refine Vw.bipush aL_texts_427 (by decide) (by decide) ?_
  refine Vw.icmp_eq aL_texts_429 (tgt := 434) (by decide) (fun _ => ?_) (fun c => absurd c (by decide))
  refine Vw.ald0 aL_texts_434 ?_
  refine Vw.bipush aL_texts_435 (by decide) (by decide) ?_
  refine cd_setRoom kd aL_texts_437 gl_RL_50 (v := 100) (LN := LT3) (sv2 := 3) (by decide) (by decide) (by decide +kernel) (by decide +kernel) (by decide +kernel) (by decide +kernel) (Nat.le_of_ble_eq_true rfl) (by decide) (fun z m' kd => ?_)
  refine Vw.bipush aL_texts_440 (by decide) (by decide) ?_
  refine Vw.icmp_ne aL_texts_442 (tgt := 520) (by decide) (fun c => absurd c (by decide)) (fun _ => ?_)
  refine Vw.ald0 aL_texts_445 ?_
  refine Vw.iconst aL_texts_446 (by decide) ?_
  refine cd_count kd aL_texts_447 gl_RL_13 (v := 14) (by decide +kernel) (Nat.le_of_ble_eq_true rfl) (by decide) ?_
  refine Vw.bipush aL_texts_450 (by decide) (by decide) ?_
  refine Vw.icmp_ne aL_texts_452 (tgt := 520) (by decide) (fun c => absurd c (by decide)) (fun _ => ?_)
  refine Vw.ald0 aL_texts_455 ?_
  refine cd_orders kd aL_texts_456 gl_RL_118 (v := 1) (LN := LT4) (sv2 := 4) (by decide) (by decide) (by decide +kernel) (by decide +kernel) (Nat.le_of_ble_eq_true rfl) (by decide) (fun z m' kd => ?_)
  refine Vw.iconst aL_texts_459 (by decide) ?_
  refine Vw.icmp_ne aL_texts_460 (tgt := 520) (by decide) (fun c => absurd c (by decide)) (fun _ => ?_)
  exact K _ _ kd
theorem lt_s2 {sz : Nat} {m : Mem} (kd : KD G m sz X 42 LT4 4 0 (txr [50, 116, 48, 59, 112, 49, 59, 48, 53, 48, 52, 61, 49, 114, 48]) (([50, 116, 48, 59, 112, 49, 59, 48, 53, 48, 52, 61, 49, 114, 48] : List Int).length : Int)) (K : ∀ (z : Nat) (m' : Mem), KD G m' z X 63 LT4 4 0 (txr [50, 116, 48, 59, 112, 49, 59, 48, 53, 48, 52, 61, 49, 114, 48]) 0 → Vw G kL_texts (rmM 9 8000 100000) Qf 522 [some (wr (some X)), none] [] z m' 7185 88348) : Vw G kL_texts (rmM 9 8000 100000) Qf 463 [some (wr (some X)), none] [] sz m 6971 86112 := by
  refine Vw.ald0 aL_texts_463 ?_
  refine Vw.iconst aL_texts_464 (by decide) ?_
  refine cd_count kd aL_texts_465 gl_RL_13 (v := 28) (by decide +kernel) (Nat.le_of_ble_eq_true rfl) (by decide) ?_
  refine Vw.bipush aL_texts_468 (by decide) (by decide) ?_
  refine Vw.icmp_ne aL_texts_470 (tgt := 520) (by decide) (fun c => absurd c (by decide)) (fun _ => ?_)
  refine Vw.ald0 aL_texts_473 ?_
  refine cd_ordersN kd aL_texts_474 gl_RL_118 (v := (-3)) (by decide) (by decide +kernel) (by decide +kernel) rfl (Nat.le_of_ble_eq_true rfl) (by decide) (fun z m' kd => ?_)
  refine Vw.bipush aL_texts_477 (by decide) (by decide) ?_
  refine Vw.icmp_ne aL_texts_479 (tgt := 520) (by decide) (fun c => absurd c (by decide)) (fun _ => ?_)
  refine Vw.ald0 aL_texts_482 ?_
  refine Vw.iconst aL_texts_483 (by decide) ?_
  refine cd_count kd aL_texts_484 gl_RL_13 (v := 28) (by decide +kernel) (Nat.le_of_ble_eq_true rfl) (by decide) ?_
  refine Vw.bipush aL_texts_487 (by decide) (by decide) ?_
  refine Vw.icmp_ne aL_texts_489 (tgt := 520) (by decide) (fun c => absurd c (by decide)) (fun _ => ?_)
  refine Vw.ald0 aL_texts_492 ?_
  refine Vw.iconst aL_texts_493 (by decide) ?_
  refine cd_count kd aL_texts_494 gl_RL_13 (v := 6) (by decide +kernel) (Nat.le_of_ble_eq_true rfl) (by decide) ?_
  refine Vw.bipush aL_texts_497 (by decide) (by decide) ?_
  refine Vw.icmp_ne aL_texts_499 (tgt := 520) (by decide) (fun c => absurd c (by decide)) (fun _ => ?_)
  refine Vw.ald0 aL_texts_502 ?_
  refine cd_clear kd aL_texts_503 gl_RL_181 (v := 15) rfl (Nat.le_of_ble_eq_true rfl) (by decide) (fun z m' kd => ?_)
  refine Vw.bipush aL_texts_506 (by decide) (by decide) ?_
  refine Vw.icmp_ne aL_texts_508 (tgt := 520) (by decide) (fun c => absurd c (by decide)) (fun _ => ?_)
  refine Vw.ald0 aL_texts_511 ?_
  refine cd_ordersF kd aL_texts_512 gl_RL_118 (v := (-100)) (by decide) (by decide +kernel) (by decide +kernel) (Nat.le_of_ble_eq_true rfl) (by decide) (fun z m' kd => ?_)
  refine Vw.bipush aL_texts_515 (by decide) (by decide) ?_
  refine Vw.icmp_eq aL_texts_517 (tgt := 522) (by decide) (fun _ => ?_) (fun c => absurd c (by decide))
  exact K _ _ kd
theorem lt_loop {C : Int} {L : List (List Int)} {sv ish : Int} (hC : C + 21 ≤ 20000) : ∀ (d : Nat) (k : Int) (m : Mem) (z : Nat) (tx : Int → Int), 60 - k = d → 0 ≤ k → (1 ≤ k → tx 0 = 112) → KD G m z X C L sv ish tx k → Vw G kL_texts (rmM 9 8000 100000) (QfW G (fun r _ _ => r = some (wi 1)) 8000 100000) 524 [some (wr (some X)), some (wi k)] [] z m 7185 88348 := by
  intro d
  induction d with
  | zero =>
    intro k m z tx hn h0 h1 kd
    have e : k = 60 := by omega
    subst e
    have e0 := h1 (by decide)
    have q0 := txt0 (tx := tx) (ln := 60) (by omega)
    refine Vw.ild1 aL_texts_524 ?_
    refine Vw.bipush aL_texts_525 (by decide) (by decide) ?_
    refine Vw.icmp_ge aL_texts_527 (tgt := 550) (by decide) (fun c527 => ?_) (fun c527 => by exfalso; omega)
    refine Vw.ald0 aL_texts_550 ?_
    refine Vw.bipush aL_texts_551 (by decide) (by decide) ?_
    refine cd_typeN (v := -3) kd aL_texts_553 gl_RL_110 rfl rfl (Nat.le_of_ble_eq_true rfl) (by decide) ?_
    refine Vw.bipush aL_texts_556 (by decide) (by decide) ?_
    refine Vw.icmp_ne aL_texts_558 (tgt := 583) (by decide) (fun c558 => absurd c558 (by decide)) (fun c558 => ?_)
    refine Vw.ald0 aL_texts_561 ?_
    refine cd_ordersF (v := -100) kd aL_texts_562 gl_RL_118 hC q0.1 (by rw [q0.2]; rfl) (Nat.le_of_ble_eq_true rfl) (by decide) (fun z m kd => ?_)
    refine Vw.bipush aL_texts_565 (by decide) (by decide) ?_
    refine Vw.icmp_ne aL_texts_567 (tgt := 583) (by decide) (fun c567 => absurd c567 (by decide)) (fun c567 => ?_)
    refine Vw.ald0 aL_texts_570 ?_
    refine cd_clear (v := 60) kd aL_texts_571 gl_RL_181 rfl (Nat.le_of_ble_eq_true rfl) (by decide) (fun z m kd => ?_)
    refine Vw.bipush aL_texts_574 (by decide) (by decide) ?_
    refine Vw.icmp_ne aL_texts_576 (tgt := 583) (by decide) (fun c576 => absurd c576 (by decide)) (fun c576 => ?_)
    refine Vw.iconst aL_texts_579 (by decide) ?_
    refine Vw.goto aL_texts_580 (tgt := 584) (by decide) ?_
    refine Vw.zret aL_texts_584 rfl (by first | decide | omega) (by decide) ?_
    rfl
  | succ d ih =>
    intro k m z tx hn h0 h1 kd
    refine Vw.ild1 aL_texts_524 ?_
    refine Vw.bipush aL_texts_525 (by decide) (by decide) ?_
    refine Vw.icmp_ge aL_texts_527 (tgt := 550) (by decide) (fun c527 => by exfalso; omega) (fun c527 => ?_)
    refine Vw.ald0 aL_texts_530 ?_
    refine Vw.bipush aL_texts_531 (by decide) (by decide) ?_
    refine cd_type (v := k + 1) kd aL_texts_533 gl_RL_110 (by omega) (by decide) rfl (Nat.le_of_ble_eq_true rfl) (by decide) (fun z m kd => ?_)
    refine Vw.ild1 aL_texts_536 ?_
    refine Vw.iconst aL_texts_537 (by decide) ?_
    refine Vw.iadd aL_texts_538 (by omega) ?_
    refine Vw.icmp_eq aL_texts_539 (tgt := 544) (by decide) (fun c539 => ?_) (fun c539 => absurd c539 (fun q => q rfl))
    refine Vw.inc1 aL_texts_544 (by omega) rfl ?_
    refine Vw.goto aL_texts_547 (tgt := 524) (by decide) ?_
    refine ih (k + 1) m z (upI tx k 112) (by omega) (by omega) (fun _ => ?_) kd
    by_cases q : k = 0
    · subst q; rw [upI_s]
    · rw [upI_n (by omega)]; exact h1 (by omega)
theorem okw_texts {sz : Nat} {m : Mem} (ht : m G.2.2.2 = iar 0 h0) (hl : G.2.2.2 < G.2.2.1) : OkW G kL_texts 9 [] sz m 8000 100000 (fun r _ _ => r = some (wi 1)) := by
  refine OkW.body [none, none] rfl (Nat.le_of_ble_eq_true rfl) (by decide) ?_
  refine lf_s0 ht hl (fun z m ht => ?_)
  refine lf_s1 ht hl (fun z m ht => ?_)
  refine lf_s2 ht hl (fun z m ht => ?_)
  refine lf_s3 ht hl (fun z m ht => ?_)
  refine lf_s4 ht hl (fun z m ht => ?_)
  refine Vw.knowS (fun _ hle => ?_)
  refine Vw.new aL_texts_282 nl_RL_14 (by decide) ?_
  refine Vw.dup aL_texts_285 ?_
  refine wall_X5_init aL_texts_286 gl_RL_76 (ok_init5 upM_s) (Nat.le_of_ble_eq_true rfl) (by decide) (gwN (fun z4 m4 h4 => ?_))
  obtain ⟨rfl, hN⟩ := h4
  refine Vw.ast0 aL_texts_289 rfl ?_
  have kh := khStart (Z := z + 157) (hs := fun _ _ => 0) hN ((upM_n (by omega)).trans ht) (by omega) (fun _ _ => rfl) (Nat.le_refl _) (fun a a0 a1 => by omega)
  have kd : KD G m4 (z + 157) z 0 LP0 0 0 (fun _ => 0) 0 := KD.of (Nat.le_refl _) kh (by decide +kernel)
  exact lt_s0 kd (fun z m kd => lt_s1 kd (fun z m kd => lt_s2 kd (fun z m kd => by
    refine Vw.iconst aL_texts_522 (by decide) ?_
    refine Vw.ist1 aL_texts_523 rfl ?_
    exact lt_loop (by decide) 60 0 m z _ (by decide) (by decide) (fun q => absurd q (by decide)) kd)))
end
