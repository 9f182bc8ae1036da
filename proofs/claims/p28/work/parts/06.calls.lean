-- rows of V: calls, returns, the JDK's own
def callee (y2 : MK) (n2 : Nat) : Prop := Cond.code y2.1 y2.2.1 y2.2.2.1 y2.2.2.2 ∈ GW ∧ Cond.initialized y2.1.cls ∈ GW ∧ (y2.1.cls ≠ "java/lang/invoke/MethodHandle" ∧ y2.1.cls ≠ "java/lang/invoke/VarHandle") ∧ (parseMethodDescriptor y2.1.desc).map (fun d => d.parameters.length) = some n2
def PI (z : Int) (sz : Nat) (m : Mem) : PO := fun r s' m' => r = some (.inl z) ∧ s' = sz ∧ m' = m
def PR (q : Option Nat) (sz : Nat) (m : Mem) : PO := fun r s' m' => r = some (.inr q) ∧ s' = sz ∧ m' = m
def PV (sz : Nat) (m : Mem) : PO := fun r s' m' => r = none ∧ s' = sz ∧ m' = m
theorem wsM_good {y2 : MK} (hc : Cond.code y2.1 y2.2.1 y2.2.2.1 y2.2.2.2 ∈ GW) : GoodIn GW (wsM y2) := by
  intro w hw
  have hm : w ∈ GW := by
    rcases List.mem_cons.mp hw with h | h
    · rw [h]; exact hc
    · exact h
  exact ⟨hm, good_of_word (gw_good w hm)⟩
theorem PcA.blind {G : GX} {args : List AV} {sz : Nat} {m : Mem} : FrameBlind (PcA G args sz m) := fun a U g mk q => ⟨q.1, q.2.1, q.2.2.1.same rfl rfl, q.2.2.2.moved (Vm.Alike.refl U.vm)⟩
theorem PcA.of {G : GX} {args2 : List AV} {s U : State} {H : Heap} {locs : List Loc} {sz : Nat} {m : Mem} (hwf : ∀ v ∈ args2, wfv v) (hB : base G s) (hR : Rel G s H sz m) (hS : va_S (Afr G) s.heap H locs) (hU : U.heap = H) (hW : s.WarmedH U.vm) : PcA G args2 sz m (args2.map toV).toArray U :=
  ⟨rfl, hwf, base.moved hW (by rw [hU]; exact hS) hB, by rw [hU]; exact hR.moved hW.alike⟩
section
variable {G : GX} {y : MK} {R : Room} {Qf : QF} {pc pc' : Nat} {L : List (Option AV)} {st : List AV} {sz : Nat} {m : Mem} {k n : Nat}
theorem V.back {p : Program} {e : Env} {s : State} {mid : MethodId} {args : Array Value} {below : List Frame} {meth : Method} {c : Code} {H : Heap} {locs : List Loc} {ls : Array Slot} {st0 : List Value} {a2 : Array Value} {P : PO} {mc ms : Nat}
    (hC : CX G y p s mid args meth c) (hS : va_S (Afr G) s.heap H locs) (hL : LV ls y.2.2.1 L) (hW : WS L st)
    (hr : va_Run p G.1 e R s mid args below meth c H locs k n mc ms (F0 mid pc ls st0) (st.map toV) (QcA G P a2) (Afr G))
    (kk : ∀ (r : Option AV) (sz' : Nat) (m' : Mem), P r sz' m' → V G y R Qf (pc + 3) L (r.toList ++ st) sz' m' (k + mc) (n + ms)) : W p G.1 e R s mid args below meth c H locs k n (Qf s below args) (F0 mid pc ls st0) := by
  intro T hT X
  obtain ⟨v, st₀, t, T', Lc, h0, X', hLc, e1, e2, ⟨r, sz', m', hv, hp, hwr, hrel, hF⟩, hst⟩ := hr T hT X
  have hv2 : v = r.map toV := by simpa using hv
  subst hv2
  have hrel2 : Rel G s T'.heap sz' m' := by
    rw [e1]
    exact hrel.moved (by rw [← e2]; exact X'.warmed.alike.symm)
  have hS2 : va_S (Afr G) s.heap T'.heap (locs ++ Lc) := by
    rw [e1]
    have hz := hF.1
    have hk := hF.2
    rw [h0] at hz hk
    exact ⟨Nat.le_trans hS.1 hz, fun q h1 h2 => by rw [hk q (Nat.lt_of_lt_of_le h1 hS.1) h2]; exact hS.2.1 q h1 h2, fun q hq => by
      rcases List.mem_append.mp hq with h | h
      · exact hS.2.2 q h
      · exact hLc q h⟩
  have hW2 : WS L (r.toList ++ st) := by
    refine ⟨hW.1, fun w hw => ?_⟩
    rcases List.mem_append.mp hw with h | h
    · cases r with
      | none => simp at h
      | some x =>
        simp at h
        rw [h]
        exact hwr x rfl
    · exact hW.2 w h
  obtain ⟨t2, a1, b1⟩ := kk r sz' m' hp p e s mid args below meth c T'.heap (locs ++ Lc) ls hC hrel2 hS2 hL hW2 T' rfl X'
  refine ⟨t2, hst t2 ?_, b1⟩
  have e3 : (r.map toV).toList ++ st.map toV = (r.toList ++ st).map toV := by cases r <;> rfl
  rw [e3]
  exact a1
theorem V.callV {y2 : MK} {d2 mc ms n2 ci idx a : Nat} {args2 fs S : List AV} {P : PO} (h : At y pc (.invokevirtual idx) 3 pc') (hl : Cond.methodLink y.1.cls idx y2.1 ∈ GW) (hc : callee y2 n2) (hc1 : Cond.instanceMethod y2.1 ∈ GW) (hc2 : Cond.selects y2.1.cls y2.1 y2.1 ∈ GW)
    (hn : args2.length = n2) (hcl : y2.1.cls = rcl ci) (ok : Ok G y2 d2 (.inr (some a) :: args2) sz m mc ms P) (hm : m a = obj ci fs) (hst : S = args2.reverse ++ .inr (some a) :: st) (h8 : st.length ≤ 8)
    (hr : (d2 + 1 ≤ R.frames ∧ 8 + (y2.2.2.1 + 11) + 40 * d2 ≤ R.locals) ∧ k + mc ≤ R.cells ∧ n + ms ≤ R.slots) (kk : ∀ (r : Option AV) (sz' : Nat) (m' : Mem), P r sz' m' → V G y R Qf pc' L (r.toList ++ st) sz' m' (k + mc) (n + ms)) : V G y R Qf pc L S sz m k n := by
  obtain ⟨hd, rfl⟩ := h
  subst hst
  obtain ⟨hcode, hini, hmh, hpar⟩ := hc
  intro p e s mid args below meth c H locs ls hC hR hS hL hW
  have hx := hC
  obtain ⟨hexec, hb, hml, hrt, hlk, hown, hnm, hts, hB⟩ := hx
  have hWs : WS L st := ⟨hW.1, fun w hw => hW.2 w (List.mem_append_right _ (List.mem_cons_of_mem _ hw))⟩
  have hwf : ∀ v ∈ (.inr (some a) :: args2 : List AV), wfv v := by
    refine wcons trivial (fun v hv => hW.2 v (List.mem_append_left _ (List.mem_reverse.mpr hv)))
  have h0 := hR.2.2 a
  rw [hm] at h0
  obtain ⟨-, -, r0, hr0, cellV, q1, q2, q3, -⟩ := h0
  have hcls := (hB.1.1 ci r0 hr0).2
  have hrc : r0.1 = y2.1.cls := by rw [hcl]; unfold rcl; rw [hr0]
  have hB2 : CallB R s args y.1.cls idx y2.1 y2.2.1 y2.2.2.1 y2.2.2.2 (wsM y2) (rmM d2 mc ms) mc ms n2 := callB_of n2 hts (wsM_good hcode) rfl rfl rfl (hts _ hini) (hts _ hl) ⟨hmh.1, hmh.2, hpar⟩ hr.1
  refine V.back hC hS hL hWs (va_runV (C := y2.1.cls) (b := a) (As := args2.map toV) (rest := st.map toV) ⟨hexec, hb, hml, hown, hts⟩ ok ⟨hB2, hts _ hc1, hts _ hc2⟩ ⟨PcA.blind, ⟨cellV, q1, by rw [q3]; rfl, by rw [q2, ← hrc]; exact hcls.1⟩, fun U hU hWm => PcA.of (args2 := .inr (some a) :: args2) hwf hB hR hS hU hWm⟩ rfl (by rw [List.length_map]; exact hn) hL.2.1 ?_ (lv_room (by rw [cat_sum]; exact h8)) hd hr.2) kk
  show List.map toV (args2.reverse ++ .inr (some a) :: st) = _
  rw [List.map_append, List.map_reverse]
  rfl
theorem V.callS {y2 : MK} {d2 mc ms n2 idx : Nat} {args2 S : List AV} {P : PO} (h : At y pc (.invokestatic idx) 3 pc') (hl : Cond.methodLink y.1.cls idx y2.1 ∈ GW) (hc : callee y2 n2) (hc1 : Cond.static y2.1 ∈ GW)
    (hn : args2.length = n2) (ok : Ok G y2 d2 args2 sz m mc ms P) (hst : S = args2.reverse ++ st) (h8 : st.length ≤ 8)
    (hr : (d2 + 1 ≤ R.frames ∧ 8 + (y2.2.2.1 + 11) + 40 * d2 ≤ R.locals) ∧ k + mc ≤ R.cells ∧ n + ms ≤ R.slots) (kk : ∀ (r : Option AV) (sz' : Nat) (m' : Mem), P r sz' m' → V G y R Qf pc' L (r.toList ++ st) sz' m' (k + mc) (n + ms)) : V G y R Qf pc L S sz m k n := by
  obtain ⟨hd, rfl⟩ := h
  subst hst
  obtain ⟨hcode, hini, hmh, hpar⟩ := hc
  intro p e s mid args below meth c H locs ls hC hR hS hL hW
  have hx := hC
  obtain ⟨hexec, hb, hml, hrt, hlk, hown, hnm, hts, hB⟩ := hx
  have hWs : WS L st := ⟨hW.1, fun w hw => hW.2 w (List.mem_append_right _ hw)⟩
  have hwf : ∀ v ∈ args2, wfv v := fun v hv => hW.2 v (List.mem_append_left _ (List.mem_reverse.mpr hv))
  have hB2 : CallB R s args y.1.cls idx y2.1 y2.2.1 y2.2.2.1 y2.2.2.2 (wsM y2) (rmM d2 mc ms) mc ms n2 := callB_of n2 hts (wsM_good hcode) rfl rfl rfl (hts _ hini) (hts _ hl) ⟨hmh.1, hmh.2, hpar⟩ hr.1
  refine V.back hC hS hL hWs (va_runS (As := args2.map toV) (rest := st.map toV) ⟨hexec, hb, hml, hown, hts⟩ ok ⟨hB2, hts _ hc1⟩ ⟨PcA.blind, fun U hU hWm => PcA.of hwf hB hR hS hU hWm⟩ rfl (by rw [List.length_map]; exact hn) hL.2.1 ?_ (lv_room (by rw [cat_sum]; exact h8)) hd hr.2) kk
  show List.map toV (args2.reverse ++ st) = _
  rw [List.map_append, List.map_reverse]
theorem V.callI {y2 : MK} {d2 mc ms n2 idx a : Nat} {args2 S : List AV} {P : PO} (h : At y pc (.invokespecial idx) 3 pc') (hl : Cond.methodLink y.1.cls idx y2.1 ∈ GW) (hc : callee y2 n2) (hc1 : Cond.instanceMethod y2.1 ∈ GW) (hc2 : y2.1.name = "<init>") (hc3 : y2.2.2.2 = none)
    (hn : args2.length = n2) (ok : Ok G y2 d2 (.inr (some a) :: args2) sz m mc ms P) (hst : S = args2.reverse ++ .inr (some a) :: st) (h8 : st.length ≤ 8)
    (hr : (d2 + 1 ≤ R.frames ∧ 8 + (y2.2.2.1 + 11) + 40 * d2 ≤ R.locals) ∧ k + mc ≤ R.cells ∧ n + ms ≤ R.slots) (kk : ∀ (r : Option AV) (sz' : Nat) (m' : Mem), P r sz' m' → V G y R Qf pc' L (r.toList ++ st) sz' m' (k + mc) (n + ms)) : V G y R Qf pc L S sz m k n := by
  obtain ⟨hd, rfl⟩ := h
  subst hst
  obtain ⟨hcode, hini, hmh, hpar⟩ := hc
  intro p e s mid args below meth c H locs ls hC hR hS hL hW
  have hx := hC
  obtain ⟨hexec, hb, hml, hrt, hlk, hown, hnm, hts, hB⟩ := hx
  have hWs : WS L st := ⟨hW.1, fun w hw => hW.2 w (List.mem_append_right _ (List.mem_cons_of_mem _ hw))⟩
  have hwf : ∀ v ∈ (.inr (some a) :: args2 : List AV), wfv v := by
    refine wcons trivial (fun v hv => hW.2 v (List.mem_append_left _ (List.mem_reverse.mpr hv)))
  have hB2 : CallB R s args y.1.cls idx y2.1 y2.2.1 y2.2.2.1 none (wsM y2) (rmM d2 mc ms) mc ms n2 := callB_of n2 hts (wsM_good hcode) (by unfold wsM; rw [hc3]) rfl rfl (hts _ hini) (hts _ hl) ⟨hmh.1, hmh.2, hpar⟩ hr.1
  refine V.back hC hS hL hWs (va_runI (b := a) (As := args2.map toV) (rest := st.map toV) ⟨hexec, hb, hml, hown, hts⟩ ok ⟨hB2, hc2, hts _ hc1⟩ ⟨PcA.blind, fun U hU hWm => PcA.of (args2 := .inr (some a) :: args2) hwf hB hR hS hU hWm⟩ rfl (by rw [List.length_map]; exact hn) hL.2.1 ?_ (lv_room (by rw [cat_sum]; exact h8)) hd hr.2) kk
  show List.map toV (args2.reverse ++ .inr (some a) :: st) = _
  rw [List.map_append, List.map_reverse]
  rfl
theorem V.callN {y2 : MK} {d2 mc ms idx a : Nat} {P : PO} (h : At y pc (.invokespecial idx) 3 pc') (ho : y.1.cls = RX4) (hl : (idx = 19 ∧ y2.1 = yX1_init) ∨ (idx = 28 ∧ y2.1 = yX2_init)) (hc : callee y2 0) (hc1 : Cond.instanceMethod y2.1 ∈ GW) (hc2 : y2.1.name = "<init>") (hc3 : y2.2.2.2 = none)
    (ok : Ok G y2 d2 [.inr (some a)] sz m mc ms P) (h8 : st.length ≤ 8)
    (hr : (d2 + 1 ≤ R.frames ∧ 8 + (y2.2.2.1 + 11) + 40 * d2 ≤ R.locals) ∧ k + mc ≤ R.cells ∧ n + ms ≤ R.slots) (kk : ∀ (r : Option AV) (sz' : Nat) (m' : Mem), P r sz' m' → V G y R Qf pc' L (r.toList ++ st) sz' m' (k + mc) (n + ms)) : V G y R Qf pc L (.inr (some a) :: st) sz m k n := by
  obtain ⟨hd, rfl⟩ := h
  obtain ⟨hcode, hini, hmh, hpar⟩ := hc
  intro p e s mid args below meth c H locs ls hC hR hS hL hW
  have hx := hC
  obtain ⟨hexec, hb, hml, hrt, hlk, hown, hnm, hts, hB⟩ := hx
  have hwf : ∀ v ∈ ([.inr (some a)] : List AV), wfv v := wcons trivial (fun v hv => by cases hv)
  have hnest : va_Nw (.methodLinkNest y.1.cls idx y2.1 RX5) s := by
    rw [ho]
    obtain ⟨-, -, -, h4, h5, -⟩ := hB
    rcases hl with ⟨rfl, h2⟩ | ⟨rfl, h2⟩
    · rw [h2]; exact h4
    · rw [h2]; exact h5
  have hB2 : va_CN R s args y.1.cls idx y2.1 RX5 y2.2.1 y2.2.2.1 none (wsM y2) (rmM d2 mc ms) mc ms 0 := va_cnB 0 hts (wsM_good hcode) (by unfold wsM; rw [hc3]) rfl rfl hnest (hts _ hini) ⟨hmh.1, hmh.2, hpar⟩ hr.1
  exact V.back hC hS hL hW.tl (va_runIN (b := a) (As := []) (rest := st.map toV) ⟨hexec, hb, hml, hown, hts⟩ ok ⟨hB2, hc2, hts _ hc1⟩ ⟨PcA.blind, fun U hU hWm => PcA.of (args2 := [.inr (some a)]) hwf hB hR hS hU hWm⟩ rfl rfl hL.2.1 rfl (lv_room (by rw [cat_sum]; exact h8)) hd hr.2) kk
theorem V.objI {idx a : Nat} (h : At y pc (.invokespecial idx) 3 pc') (hl : Cond.methodLink y.1.cls idx Lib.objectInit ∈ GW) (hr : 1 ≤ R.frames ∧ st.length + 12 ≤ R.locals) (kk : V G y R Qf pc' L st sz m k n) : V G y R Qf pc L (.inr (some a) :: st) sz m k n := by
  obtain ⟨hd, rfl⟩ := h
  intro p e s mid args below meth c H locs ls hC hR hS hL hW
  have hx := hC
  obtain ⟨hexec, hb, hml, hrt, hlk, hown, hnm, hts, hB⟩ := hx
  exact W.objInit hexec hb hown (hts _ hl) (hts _ gj_objI) (hts _ gj_objC) rfl (hL.2.1.trans hml.symm) rfl hd hr.1 (by show 2 * 0 + _ + 12 ≤ _; rw [cat_sum]; omega) (kk p e s mid args below meth c H locs ls hC hR hS hL hW.tl)
theorem V.copy {idx a0 a n0 n1 : Nat} {f g : Int → Int} {sp dp nn : Int} (h : At y pc (.invokestatic idx) 3 pc') (hl : Cond.methodLink y.1.cls idx arraycopyName ∈ GW) (hi : Cond.initialized "java/lang/System" ∈ GW) (hm0 : m a0 = iar n0 f) (hm1 : m a = iar n1 g) (hna : a0 ≠ a)
    (hb0 : 0 ≤ sp ∧ 0 ≤ dp ∧ 0 < nn ∧ sp + nn ≤ n0 ∧ dp + nn ≤ n1) (hr : 1 ≤ R.frames ∧ st.length + (nativeFrameWords "java/lang/System" "arraycopy" 5 + 11) ≤ R.locals)
    (kk : V G y R Qf pc' L st sz (upM m a (iar n1 (fun j => if dp ≤ j ∧ j < dp + nn then f (sp + (j - dp)) else g j))) k n) : V G y R Qf pc L (.inl nn :: .inl dp :: .inr (some a) :: .inl sp :: .inr (some a0) :: st) sz m k n := by
  obtain ⟨hd, rfl⟩ := h
  intro p e s mid args below meth c H locs ls hC hR hS hL hW
  have hx := hC
  obtain ⟨hexec, hb, hml, hrt, hlk, hown, hnm, hts, hB⟩ := hx
  have wn : inR nn := hW.hd
  have wd : inR dp := hW.tl.hd
  have wsp : inR sp := hW.tl.tl.tl.hd
  have ha0 := hR.2.2 a0
  rw [hm0] at ha0
  obtain ⟨u1, u2, c0, u3, u4, u5⟩ := hOK_arr ha0 (by omega) (by decide)
  have ha := hR.2.2 a
  rw [hm1] at ha
  obtain ⟨g1, g2, c1, g3, g4, g5⟩ := hOK_arr ha (by omega) (by decide)
  have hN : G.2.2.1 ≤ a := by rcases g1 with q | q | q <;> omega
  have c_sp := oI_clamp hb0.1 wsp.2
  have c_dp := oI_clamp hb0.2.1 wd.2
  have c_nn := oI_clamp (Int.le_of_lt hb0.2.2.1) wn.2
  have nl : ∀ {z : Int}, inR z → 0 ≤ z → ¬ Int32.ofInt z < 0 := fun w h0 q => by have := (oI_lt w (by decide : inR 0)).mp q; omega
  obtain ⟨wsL, hwsL⟩ : ∃ ws : va_W, ws = [(a0, .inl (c0, n0, .inl (fun j => Int32.ofInt (f (j : Int))))), (a, .inl (c1, n1, .inl (fun j => Int32.ofInt (g (j : Int)))))] := ⟨_, rfl⟩
  intro T hT X
  have hc0 : H[a0]? = some (vp_cell c0 (n0, .inl (fun j => Int32.ofInt (f (j : Int))))) := u5
  have hc1 : H[a]? = some (vp_cell c1 (n1, .inl (fun j => Int32.ofInt (g (j : Int))))) := g5
  obtain ⟨-, k0, hk0, cm0, hkk0⟩ := u3 n0 (fun j => .int (Int32.ofInt (f (j : Int))))
  obtain ⟨-, k1, hk1, cm1, hkk1⟩ := g3 n1 (fun j => .int (Int32.ofInt (g (j : Int))))
  obtain ⟨vm', X', step⟩ := X.arraycopy hexec hown (hts _ hl) (hts _ gj_cpN) (hts _ gj_cpS) (hts _ hi) (src := a0) (dst := a) (cs := vp_cell c0 (n0, .inl (fun j => Int32.ofInt (f (j : Int))))) (cd := vp_cell c1 (n1, .inl (fun j => Int32.ofInt (g (j : Int))))) (srcPos := Int32.ofInt sp) (destPos := Int32.ofInt dp) (n := Int32.ofInt nn) (by rw [hT]; exact hc0) (by rw [hT]; exact hc1)
    (fun _ h => by cases h) (fun _ h => by cases h) (fun h => by cases h) (fun h => by cases h) hk0 hk1 hkk0 hkk1 (by decide) (nl wsp hb0.1) (nl wd hb0.2.1) (nl wn (Int.le_of_lt hb0.2.2.1))
    (by rw [inR_toInt wsp, inR_toInt wn]; show ¬ _ > ((arrV c0 n0 _).slots.size : Int); rw [arrV_size]; omega)
    (by rw [inR_toInt wd, inR_toInt wn]; show ¬ _ > ((arrV c1 n1 _).slots.size : Int); rw [arrV_size]; omega)
    (fun vm₁ _ i hi => by
      rw [c_nn] at hi
      have e : (vp_cell c0 (n0, .inl (fun j => Int32.ofInt (f (j : Int))))).slots.getD ((Int32.ofInt sp).toNatClampNeg + i) .null = .int (Int32.ofInt (f (((Int32.ofInt sp).toNatClampNeg + i : Nat) : Int))) := by
        show (arrV c0 n0 _).slots.getD _ _ = _
        rw [Array.getD_eq_getD_getElem?, arrV_read _ _ (by rw [c_sp]; omega)]
        rfl
      refine ⟨?_, ?_⟩
      · rw [e]
        rfl
      · rw [e]
        exact trivial)
    (g := F0 mid pc ls (List.map toV (.inl nn :: .inl dp :: .inr (some a) :: .inl sp :: .inr (some a0) :: st))) rfl (by rw [hml]; exact hL.2.1) (rest := st.map toV) rfl (by rw [hb]; exact hd) hr.1 (by show 2 * 0 + _ + _ ≤ _; rw [cat_sum]; omega)
  have e1 : copied (vp_cell c0 (n0, .inl (fun j => Int32.ofInt (f (j : Int))))) (vp_cell c1 (n1, .inl (fun j => Int32.ofInt (g (j : Int))))) (Int32.ofInt sp) (Int32.ofInt dp) (Int32.ofInt nn) = arrV c1 n1 (fun j : Nat => .int (Int32.ofInt (if dp ≤ (j : Int) ∧ (j : Int) < dp + nn then f (sp + ((j : Int) - dp)) else g (j : Int)))) := by
    refine (va_copied (fun z => .int z) c0 c1 (fun j => Int32.ofInt (f (j : Int))) (fun j => Int32.ofInt (g (j : Int))) (by rw [c_sp, c_nn]; omega)).trans ?_
    congr 1
    funext j
    rw [c_sp, c_dp, c_nn]
    unfold va_cpy
    by_cases q : dp ≤ (j : Int) ∧ (j : Int) < dp + nn
    · rw [if_pos q, if_pos (by omega)]
      refine congrArg (fun x => Value.int (Int32.ofInt (f x))) ?_
      omega
    · rw [if_neg q, if_neg (by omega)]
  rw [e1] at X' step
  have hfit : ∀ j : Int, 0 ≤ j → j < n1 → inR (if dp ≤ j ∧ j < dp + nn then f (sp + (j - dp)) else g j) := by
    intro j j0 j1
    by_cases q : dp ≤ j ∧ j < dp + nn
    · rw [if_pos q]
      exact (u2 _ (by omega) (by omega)).1
    · rw [if_neg q]
      exact (g2 j j0 j1).1
  have hlt : a < H.size := (Array.getElem?_eq_some_iff.mp hc1).1
  have oq : ∀ (x : Cell) (q : Nat), q ≠ a → (H.setIfInBounds a x)[q]? = H[q]? := fun x q hq => by simp [Array.getElem?_setIfInBounds, Ne.symm hq]
  obtain ⟨t, a1, b1⟩ := kk p e s mid args below meth c (H.setIfInBounds a (arrV c1 n1 (fun j : Nat => .int (Int32.ofInt (if dp ≤ (j : Int) ∧ (j : Int) < dp + nn then f (sp + ((j : Int) - dp)) else g (j : Int)))))) _ ls hC
    (hR.set (by simp) (oq _) ⟨Or.inl hN, fun j j0 j1 => ⟨hfit j j0 j1, fun q => by cases q⟩, Or.inl ⟨c1, g3, g4, by simp [Array.getElem?_setIfInBounds, hlt]⟩⟩)
    ⟨by simp; exact hS.1, fun q h1 h2 => by rw [oq _ q (fun e => h2 (by rw [e]; exact hN))]; exact hS.2.1 q h1 h2, fun q hq => by
      rcases List.mem_append.mp hq with h | h
      · exact hS.2.2 q h
      · obtain ⟨z, -, hz⟩ := List.mem_map.mp h
        rw [← hz]
        exact hN⟩ hL hW.tl.tl.tl.tl.tl _ (by rw [← hT]; rfl) X'
  exact ⟨t, step t a1, b1⟩
theorem V.clone {idx a nn : Nat} {f : Int → Int} (h : At y pc (.invokevirtual idx) 3 pc') (hl : Cond.methodLink y.1.cls idx ⟨"[I", "clone", "()Ljava/lang/Object;"⟩ ∈ GW) (hm : m a = iar nn f) (hpos : 0 < nn) (hr : 1 ≤ R.frames ∧ st.length + 14 ≤ R.locals ∧ k + 1 ≤ R.cells ∧ n + nn ≤ R.slots)
    (kk : V G y R Qf pc' L (.inr (some sz) :: st) (sz + 1) (upM m sz (iar nn f)) (k + 1) (n + nn)) : V G y R Qf pc L (.inr (some a) :: st) sz m k n := by
  obtain ⟨hd, rfl⟩ := h
  intro p e s mid args below meth c H locs ls hC hR hS hL hW
  have hx := hC
  obtain ⟨hexec, hb, hml, hrt, hlk, hown, hnm, hts, hB⟩ := hx
  have ha := hR.2.2 a
  rw [hm] at ha
  obtain ⟨g1, g2, cA, g3, g4, g5⟩ := hOK_arr ha hpos (by decide)
  have hcl := hB.2.2.2.2.2.1
  obtain ⟨c0, t0', f1, f2, f3⟩ := Cond.castable_spec (va_Nw.use (A := args) rfl hcl)
  have hnm2 : s.vm.findClass "[I" = some cA := g4
  cases hnm2.symm.trans f1
  intro T hT X
  have hcellT : T.heap[a]? = some (arrV cA nn (fun j => .int (Int32.ofInt (f (j : Int))))) := by rw [hT]; exact g5
  obtain ⟨-, kA, hkA, comp, hkind⟩ := State.isArrayOf_alike X.warmed.alike (g3 0 (fun _ => .null))
  obtain ⟨-, kS, hkS, compS, hkindS⟩ := g3 0 (fun _ => .null)
  obtain ⟨vm', X', step⟩ := X.cloneArray hexec hown (hts _ hl) (hts _ gj_clM) (hts _ gj_clN) (hts _ gj_clI) (hts _ gj_clE) (a := a) hcellT (fun k h => by cases h) (fun h => by cases h) hnm2 f2 f3
    (fun i v hv => by
      have hk' : T.vm.classes[cA]? = some kA := hkA
      have hv2 : ∃ z, v = .int z := by
        have hi : i < nn := by
          have := (Array.getElem?_eq_some_iff.mp hv).1
          rwa [arrV_size] at this
        rw [arrV_read _ _ hi] at hv
        exact ⟨_, (Option.some.inj hv).symm⟩
      obtain ⟨z, rfl⟩ := hv2
      show T.fitsSlot cA .none i _ = true
      simp [State.fitsSlot, State.slotType?, hk', hkind, fits, ity])
    (g := F0 mid pc ls (List.map toV (.inr (some a) :: st))) rfl (by rw [hml]; exact hL.2.1) rfl (by rw [hb]; exact hd) hr.1 (by show 2 * 0 + _ + 14 ≤ _; rw [cat_sum]; omega) hr.2.2.1 (by rw [arrV_size]; exact hr.2.2.2) (hloader := Vm.clonesLoader_of_array hkS hkindS)
  have hcellE : ({ cls := (arrV cA nn (fun j => .int (Int32.ofInt (f (j : Int))))).cls, slots := (arrV cA nn (fun j => .int (Int32.ofInt (f (j : Int))))).slots } : Cell) = arrV cA nn (fun j => .int (Int32.ofInt (f (j : Int)))) := rfl
  rw [hcellE, arrV_size] at X'
  generalize hH1 : H.push (arrV cA nn (fun j => .int (Int32.ofInt (f (j : Int))))) = H1
  have z1 : H1.size = sz + 1 := by rw [← hH1, Array.size_push, hR.1]
  have e1 : H1[sz]? = some (arrV cA nn (fun j => .int (Int32.ofInt (f (j : Int))))) := by rw [← hH1, ← hR.1, Array.getElem?_push_size]
  have o1 : ∀ q : Nat, q < sz → H1[q]? = H[q]? := fun q hq => by rw [← hH1, Array.getElem?_push, if_neg (by rw [hR.1]; exact Nat.ne_of_lt hq)]
  obtain ⟨t, b1, b2⟩ := kk p e s mid args below meth c H1 locs ls hC (hR.push z1 o1 ⟨Or.inl hR.2.1, g2, Or.inl ⟨cA, g3, g4, e1⟩⟩) (hS.grow hR.1 z1 o1) hL (hW.tl.push trivial) ((T.setVm vm').pushCell (arrV cA nn (fun j => .int (Int32.ofInt (f (j : Int)))))) (by rw [← hH1, ← hT]; rfl) X'
  refine ⟨t, step t ?_, b2⟩
  rw [hcellE, hT, hR.1]
  exact b1
theorem V.castI {idx a nn : Nat} {f : Int → Int} (h : At y pc (.checkcast idx) 3 pc') (hl : Cond.classLink y.1.cls idx "[I" ∈ GW) (hm : m a = iar nn f) (hpos : 0 < nn) (kk : V G y R Qf pc' L (.inr (some a) :: st) sz m k n) : V G y R Qf pc L (.inr (some a) :: st) sz m k n := by
  obtain ⟨hd, rfl⟩ := h
  intro p e s mid args below meth c H locs ls hC hR hS hL hW
  have ha := hR.2.2 a
  rw [hm] at ha
  obtain ⟨g1, g2, cA, g3, g4, g5⟩ := hOK_arr ha hpos (by decide)
  have hat : va_at G.2.1 vwCl (a, .inl (cA, nn, .inl (fun j => Int32.ofInt (f (j : Int))))) H := g5
  exact va_castA hC.1 hC.2.1 hC.2.2.2.2.2.1 (hC.2.2.2.2.2.2.2.1 _ hl) (oneP hat) 0 rfl g4 hd (kk p e s mid args below meth c H locs ls hC hR hS hL hW)
-- ends
theorem Qc.mk {G : GX} {P : PO} {s : State} {H : Heap} {locs : List Loc} {sz : Nat} {m : Mem} {r : Option AV} {args : Array Value} (hp : P r sz m) (hw : ∀ v, r = some v → wfv v) (hR : Rel G s H sz m) (hS : va_S (Afr G) s.heap H locs) (t : State) (ht : t.heap = H) (hW : s.WarmedH t.vm) : QcA G P args s (.returned (r.map toV)) t :=
  ⟨r, sz, m, rfl, hp, hw, by rw [ht]; exact hR.moved hW.alike, hS.F ht⟩
theorem V.iret {P : PO} {mc ms : Nat} {z : Int} (h : At y pc .ireturn 1 pc') (hrt : y.2.2.2 = some .int) (hk : k ≤ mc ∧ n ≤ ms) (hp : P (some (.inl z)) sz m) : V G y R (QfM G P mc ms) pc L [.inl z] sz m k n := by
  obtain ⟨hd, rfl⟩ := h
  intro p e s mid args below meth c H locs ls hC hR hS hL hW
  have hlocks := hC.2.2.2.2.1
  refine W.widen hk.1 hk.2 ?_
  exact W.iret (v := Int32.ofInt z) hC.1 hC.2.1 (hC.2.2.2.1.trans hrt) (fun t ht hWm => Qc.mk (r := some (.inl z)) hp (fun v hv => by cases hv; exact hW.hd) hR hS t ht hWm) hS.2.2 hd
theorem V.zret {P : PO} {mc ms : Nat} {z : Int} (h : At y pc .ireturn 1 pc') (hrt : y.2.2.2 = some .boolean) (hz : z = 0 ∨ z = 1) (hk : k ≤ mc ∧ n ≤ ms) (hp : P (some (.inl z)) sz m) : V G y R (QfM G P mc ms) pc L [.inl z] sz m k n := by
  obtain ⟨hd, rfl⟩ := h
  intro p e s mid args below meth c H locs ls hC hR hS hL hW
  have hlocks := hC.2.2.2.2.1
  refine W.widen hk.1 hk.2 ?_
  exact W.zret (v := Int32.ofInt z) hC.1 hC.2.1 (hC.2.2.2.1.trans hrt) (by rcases hz with rfl | rfl <;> rfl) (fun t ht hWm => Qc.mk (r := some (.inl z)) hp (fun v hv => by cases hv; exact hW.hd) hR hS t ht hWm) hS.2.2 hd
theorem V.aret {P : PO} {mc ms : Nat} {r : Option Nat} {rt : FieldType} (h : At y pc .areturn 1 pc') (hrt : y.2.2.2 = some rt) (hrt2 : (∃ n, rt = .object n) ∨ ∃ t, rt = .array t) (hk : k ≤ mc ∧ n ≤ ms) (hp : P (some (.inr r)) sz m) : V G y R (QfM G P mc ms) pc L [.inr r] sz m k n := by
  obtain ⟨hd, rfl⟩ := h
  intro p e s mid args below meth c H locs ls hC hR hS hL hW
  have hlocks := hC.2.2.2.2.1
  refine W.widen hk.1 hk.2 ?_
  exact W.aret (v := toV (.inr r)) hC.1 hC.2.1 (hC.2.2.2.1.trans hrt) hrt2 (by cases r with | none => exact Or.inl rfl | some a => exact Or.inr ⟨a, rfl⟩) (fun t ht hWm => Qc.mk (r := some (.inr r)) hp (fun v hv => by cases hv; trivial) hR hS t ht hWm) hS.2.2 hd
theorem V.ret {P : PO} {mc ms : Nat} (h : At y pc .return_ 1 pc') (hrt : y.2.2.2 = none) (hk : k ≤ mc ∧ n ≤ ms) (hp : P none sz m) : V G y R (QfM G P mc ms) pc L [] sz m k n := by
  obtain ⟨hd, rfl⟩ := h
  intro p e s mid args below meth c H locs ls hC hR hS hL hW
  have hlocks := hC.2.2.2.2.1
  refine W.widen hk.1 hk.2 ?_
  exact W.vret hC.1 hC.2.1 (hC.2.2.2.1.trans hrt) (fun t ht hWm => Qc.mk (r := none) hp (fun v hv => by cases hv) hR hS t ht hWm) hS.2.2 hd
theorem goI {z : Int} {s2 : Nat} {m2 : Mem} {k2 n2 : Nat} (kk : V G y R Qf pc' L (.inl z :: st) s2 m2 k2 n2) : ∀ (r : Option AV) (sz' : Nat) (m' : Mem), PI z s2 m2 r sz' m' → V G y R Qf pc' L (r.toList ++ st) sz' m' k2 n2 := by
  rintro r sz' m' ⟨rfl, rfl, rfl⟩
  exact kk
theorem goR {q : Option Nat} {s2 : Nat} {m2 : Mem} {k2 n2 : Nat} (kk : V G y R Qf pc' L (.inr q :: st) s2 m2 k2 n2) : ∀ (r : Option AV) (sz' : Nat) (m' : Mem), PR q s2 m2 r sz' m' → V G y R Qf pc' L (r.toList ++ st) sz' m' k2 n2 := by
  rintro r sz' m' ⟨rfl, rfl, rfl⟩
  exact kk
theorem goV {s2 : Nat} {m2 : Mem} {k2 n2 : Nat} (kk : V G y R Qf pc' L st s2 m2 k2 n2) : ∀ (r : Option AV) (sz' : Nat) (m' : Mem), PV s2 m2 r sz' m' → V G y R Qf pc' L (r.toList ++ st) sz' m' k2 n2 := by
  rintro r sz' m' ⟨rfl, rfl, rfl⟩
  exact kk
end
