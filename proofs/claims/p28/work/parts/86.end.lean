def R_law : String := "PictureLogLaw"
def lw_P (b : Addr) (xs : List Int32) (args : Array Value) (s : State) : Prop := args = #[.ref b] ∧ s.IntsAt b xs ∧ xs.length ≤ 260 ∧ (Jvm.Cond.and given_1 narrow_1).before args s = true
def lw_Q (_ : Array Value) (s : State) (o : Outcome) (t : State) : Prop := o = .returned (some (.int 1)) ∧ Framed s o t [] 600000 7302250
def lw_Z (below : List Frame) (a : Array Value) (s : State) : State → Prop := fun t => ∃ o, t.status = .running ∧ Ended t below o ∧ lw_Q a s o t
/-- the law's own end, with 1 on the stack, nothing written that was there before, its room as the claim has it -/
theorem lw_retA {args : Array Value} {p : Program} {l : Launch} {e : Env} {s : State} {m : MethodId} {below : List Frame} {meth : Method} {c : Code} (hx : p.tables.exec = Jvm.exec) (hb : c.code = code) (hr : meth.sig.returnType = ret) (hlocks : meth.locks = false) {pc : Nat} {H : Heap} {ls : Array Slot} (hdg : decode code pc = .ok (.ireturn, 1)) : W p l e room_1 s m args below meth c H [] 600000 7302250 (lw_Z below args s) (F0 m pc ls [.int 1]) := by
  intro T hT X
  obtain ⟨fs, hret, hrun, hended, hW, hframe⟩ := X.leave (v := some (.int 1)) (hlocks := hlocks) (fun h => by rw [hr] at h; cases h)
  have hmeth' : T.vm.method? m = some meth := X.method'
  refine ⟨T.setFrames fs, ?_, .returned (some (.int 1)), hrun, hended, rfl, ⟨_, rfl⟩, hW, hframe⟩
  jvm_step X.here [X.here.top, hx, hb, hdg, hmeth', hr, ret, narrow_b1]
  (try refine ⟨rfl, ?_⟩); (try refine ⟨rfl, ?_⟩)
  first | (intro acts; rw [hret _ acts rfl rfl rfl]) | rw [hret _ _ rfl rfl rfl]
  exact Steps.refl _
/-- what holds at the law's entry: the machine, the code, the tables' words (any of lw_tbl by 'hts w (by decide +kernel)'), the script of L ints xs at the cell b, what the Statement gives of the start (any of its parts by flat_of_before) -/
def lw_At (p : Program) (s : State) (m : MethodId) (meth : Method) (c : Code) (b L : Nat) (xs : Nat → Int32) : Prop :=
  p.tables.exec = Jvm.exec ∧ c.code = code ∧ meth.sig.returnType = ret ∧ c.maxLocals = 10 ∧ s.vm.findClass R_law = some m.cls ∧ (∀ w ∈ lw_tbl, w.before #[Value.ref b] s = true) ∧ va_X b L xs s s.heap ∧ b < s.heap.size ∧ meth.locks = false ∧ (Jvm.Cond.and given_1 narrow_1).before #[Value.ref b] s = true ∧ meth.name = "law"
-- ===== YOUR PART BEGINS =====
-- what the statement gives of the start
theorem len_small {args : Array Value} {s : State} {t : Term} {v : Value} {a : Nat} {cell : Cell} (hv : (Term.length t).eval args s none [] s = some v) (ht : t.eval args s none [] s = some (.ref a)) (harr : s.arrayAt? a = some cell) : cell.slots.size < 2147483648 := by
  simp only [Term.eval, ht, harr, Option.bind_eq_bind, Option.bind_some] at hv
  by_cases hlt : cell.slots.size < 2147483648
  · exact hlt
  · simp [hlt] at hv
theorem law_base {l : Launch} {s : State} {b : Nat} (htG : ∀ w ∈ GW, w.before #[Value.ref b] s = true) (hts : ∀ w ∈ lw_tbl, w.before #[Value.ref b] s = true) (hgv : (Jvm.Cond.and given_1 narrow_1).before #[Value.ref b] s = true) : ∃ (t0 : Nat) (cell : Cell), s.heap[t0]? = some cell ∧ s.isArrayOf cell .int ∧ cell.vm ≠ .unknown ∧ cell.slots.size = 0 ∧ ∃ D : va_G, base (l, D, s.heap.size, t0) s := by
  have hs := flat_of_before _ hgv
  have h1 : (Cond.arrayOf (.static "PictureLog" "NO_VALUES" "[I") .int).before #[Value.ref b] s = true := hs _ (by decide +kernel)
  have h2 : (Cond.eq (.length (.static "PictureLog" "NO_VALUES" "[I")) (.int 0)).before #[Value.ref b] s = true := hs _ (by decide +kernel)
  have h3 := va_eqt h2
  have h3' := h3
  obtain ⟨t0, cell, ht, harr, hv⟩ := Term.length_spec h3
  obtain ⟨hcell, -, -, -⟩ := State.arrayAt?_spec harr
  obtain ⟨hof, hkn⟩ := Cond.arrayOf_spec h1 ht hcell
  have hlt : cell.slots.size < 2147483648 := len_small h3' ht harr
  have hsz : cell.slots.size = 0 := by
    have e2 : (cell.slots.size.toInt32).toInt = cell.slots.size := Int32.toInt_ofNat_of_lt hlt
    have e3 : (0 : Int32) = cell.slots.size.toInt32 := by injection hv
    rw [← e3] at e2
    have e4 : ((0 : Int32)).toInt = 0 := rfl
    omega
  refine ⟨t0, cell, hcell, hof, hkn, hsz, ?_⟩
  obtain ⟨c0, i0, k0⟩ := u_known (C := RX0) (T := TX0) (N := 8) htG inG0 (htG _ gn_RX0)
  obtain ⟨c1, i1, k1⟩ := u_known (C := RX1) (T := TX1) (N := 5) htG inG1 (htG _ gn_RX1)
  obtain ⟨c2, i2, k2⟩ := u_known (C := RX2) (T := TX2) (N := 5) htG inG2 (htG _ gn_RX2)
  obtain ⟨c3, i3, k3⟩ := u_known (C := RX3) (T := TX3) (N := 5) htG inG3 (htG _ gn_RX3)
  obtain ⟨c4, i4, k4⟩ := u_known (C := RX4) (T := TX4) (N := 6) htG inG4 (htG _ gn_RX4)
  obtain ⟨c5, i5, k5⟩ := u_known (C := RX5) (T := TX5) (N := 7) htG inG5 (htG _ gn_RX5)
  refine ⟨(fun k => if k = 0 then c0 else if k = 1 then c1 else if k = 2 then c2 else if k = 3 then c3 else if k = 4 then c4 else c5, fun k => if k = 0 then i0 else if k = 1 then i1 else if k = 2 then i2 else if k = 3 then i3 else if k = 4 then i4 else i5), ⟨fun k q hq => ?_, fun k q h => by simp at h⟩, va_Zof (hts _ (by decide +kernel)) (hts _ (by decide +kernel)) ht (fun a ha hA => by have : s.heap.size ≤ a := hA; omega), va_Nw.of rfl (hts _ (by decide +kernel)), va_Nw.of rfl (hts _ (by decide +kernel)), va_Nw.of rfl (hts _ (by decide +kernel)), va_Nw.of rfl (hts _ (by decide +kernel)), ?_, ?_, ?_⟩
  · match k, hq with
    | 0, hq => cases hq; exact k0
    | 1, hq => cases hq; exact k1
    | 2, hq => cases hq; exact k2
    | 3, hq => cases hq; exact k3
    | 4, hq => cases hq; exact k4
    | 5, hq => cases hq; exact k5
    | k + 6, hq => simp at hq
  · exact va_AO.of (hts (Cond.arrayOver (.object RX2)) (by decide +kernel))
  · exact va_AO.of (hts (Cond.arrayOver (.object RX0)) (by decide +kernel))
  · exact va_AO.of (hts (Cond.arrayOver (.object RX4)) (by decide +kernel))
/-- YOUR PART: from the entry, for every script of at most 260 ints, the law comes to its end with true ('hflags': the launch's flags, for a law that throws: no stack traces) -/
theorem whole_start {p : Program} {e : Env} {s : State} {m : MethodId} {below : List Frame} {meth : Method} {c : Code} (l : Launch) (hflags : l.flags = flags0) {b L : Nat} {xs : Nat → Int32} (hL : L ≤ 260) (C0 : lw_At p s m meth c b L xs) : W p l e room_1 s m #[Value.ref b] below meth c s.heap [] 0 0 (lw_Z below #[Value.ref b] s) (entryFrame m ([Value.ref b] : List Value).toArray 10) := by
  obtain ⟨hx, hb, hr, hml, hown, hts, hX, hbl, hlocks, hgv, hnm⟩ := id C0
  have htG : ∀ w ∈ GW, w.before #[Value.ref b] s = true := fun w hw => hts w (List.mem_filter.mp hw).1
  obtain ⟨t0, cell0, hcell0, hof0, hkn0, hsz0, hbase⟩ := law_base (l := l) htG hts hgv
  obtain ⟨D, hB⟩ := hbase
  obtain ⟨scr, x1, x2, x3, x4, x5⟩ := hX
  have hxs : ∀ j : Nat, Int32.ofInt ((xs ((j : Int).toNat)).toInt) = xs j := fun j => by rw [Int32.ofInt_toInt, Int.toNat_natCast]
  have ht0 : t0 < s.heap.size := (Array.getElem?_eq_some_iff.mp hcell0).1
  have hbt : b = t0 → L = 0 := fun q => by
    rw [q] at x1
    cases x1.symm.trans hcell0
    omega
  obtain ⟨G, hG⟩ : ∃ G : GX, G = (l, D, s.heap.size, t0) := ⟨_, rfl⟩
  obtain ⟨m0, hm0⟩ : ∃ m0 : Mem, m0 = fun a => if a = t0 then iar 0 (fun _ => 0) else if a = b then fiar L (fun i => (xs i.toNat).toInt) else unk := ⟨_, rfl⟩
  have hmt : m0 t0 = iar 0 (fun _ => 0) := by rw [hm0]; exact if_pos rfl
  have sb : SB m0 b L := by
    by_cases q : b = t0
    · have hL0 := hbt q
      subst q
      exact ⟨0, fun _ => 0, by rw [hmt, hL0]; rfl, fun w => absurd hL0 w⟩
    · exact ⟨2, fun i => (xs i.toNat).toInt, by rw [hm0]; exact (if_neg q).trans (if_pos rfl), fun _ => rfl⟩
  have hRel : Rel G s s.heap s.heap.size m0 := by
    rw [hG, hm0]
    refine ⟨rfl, Nat.le_refl _, fun a => ?_⟩
    by_cases qt : a = t0
    · subst qt
      show hOK _ s s.heap a (if a = a then _ else _)
      rw [if_pos rfl]
      exact ⟨Or.inr (Or.inl rfl), fun k k0 k1 => by omega, Or.inr ⟨Or.inl rfl, cell0, hcell0, hof0, hkn0, hsz0, fun j hj => by omega⟩⟩
    · by_cases qa : a = b
      · subst qa
        show hOK _ s s.heap a (if a = t0 then _ else if a = a then _ else _)
        rw [if_neg qt, if_pos rfl]
        exact ⟨Or.inr (Or.inr rfl), fun k _ _ => ⟨⟨Int32.le_toInt _, Int32.toInt_lt _⟩, fun q => absurd q (by decide)⟩, Or.inr ⟨Or.inr rfl, scr, x1, x2, x3, x4, fun j hj => by rw [x5 j hj, hxs j]⟩⟩
      · show hOK _ s s.heap a (if a = t0 then _ else if a = b then _ else _)
        rw [if_neg qt, if_neg qa]
        trivial
  have hend : ∀ (sz : Nat) (m : Mem) (k q : Nat) (L1 : List (Option LW)), k ≤ 600000 → q ≤ 7302250 → Vw G kL_law room_1 (fun s1 below args t => s1.heap.size ≤ G.2.2.1 → lw_Z below args s1 t) 552 L1 [wi 1] sz m k q := by
    intro sz m k q L1 hk hq p e s mid args below meth c H locs ls hC hR hS hL hW
    by_cases hle : s.heap.size ≤ G.2.2.1
    · have W1 : W p G.1 e room_1 s mid args below meth c H locs k q (lw_Z below args s) (F0 mid 552 ls [.int 1]) := va_forget (fun x hx => Nat.le_trans hle (hS.2.2 x hx)) (W.widen hk hq (lw_retA hC.1 hC.2.1 hC.2.2.2.1 hC.2.2.2.2.1 aL_law_552.1))
      intro T hT X
      obtain ⟨t, a1, b1⟩ := W1 T hT X
      exact ⟨t, a1, fun _ => b1⟩
    · intro T hT X
      exact ⟨_, Steps.refl _, fun q => absurd q hle⟩
  have hV := law_run (G := G) (t0 := t0) (Qf := fun s1 below args t => s1.heap.size ≤ G.2.2.1 → lw_Z below args s1 t) (sz0 := s.heap.size) (by rw [hG]) (by rw [hG]; exact hbl) (by rw [hG]; exact ht0) hbt hL hmt sb hend
  have hWs : WSw [some (wr (some b)), none, none, none, none, none, none, none, none, none] [] := by
    refine ⟨fun i v h => ?_, (fun v h => by cases h)⟩
    match i, h with
    | 0, h => cases h; trivial
    | 1, h => cases h
    | 2, h => cases h
    | 3, h => cases h
    | 4, h => cases h
    | 5, h => cases h
    | 6, h => cases h
    | 7, h => cases h
    | 8, h => cases h
    | 9, h => cases h
    | k + 10, h => simp at h
  rw [show entryFrame m ([Value.ref b] : List Value).toArray 10 = F0 m 0 ((lg_sl [Value.ref b] ++ List.replicate (10 - (lg_sl [Value.ref b]).length) Slot.unset).toArray) [] from lg_entry_eq m [Value.ref b] 10]
  have hC : CX G kL_law p s m #[Value.ref b] meth c := ⟨hx, hb, hml, hr, hlocks, hown, hnm, htG, by rw [hG]; exact hB⟩
  have K := hV p e s m #[Value.ref b] below meth c s.heap [] _ hC hRel va_S.rf (LVw.entry (vs := [wr (some b)]) (n := 10) (Nat.le_of_ble_eq_true rfl)) hWs
  have eG : G.1 = l := by rw [hG]
  rw [eG] at K
  intro T hT X
  obtain ⟨t, a1, b1⟩ := K T hT X
  exact ⟨t, a1, b1 (by rw [hG]; exact Nat.le_refl _)⟩
-- ===== YOUR PART ENDS =====
set_option maxHeartbeats 4000000 in
theorem lw_walk (l : Launch) (hflags : l.flags = flags0) (b : Addr) (xs : List Int32) : MetFree l x (headSpec (Jvm.Cond.code x code maxLocals ret :: tables_1) room_1) (lw_P b xs) (fun _ _ _ _ _ => True) lw_Q := by
  refine MetFree.of_bodyS (code := code) (maxLocals := maxLocals) (ret := ret) (by decide) ?_ ?_
  · intro args s m h hn
    obtain ⟨meth, c, h1, h2, h3, h4, h5, h6, -, -⟩ := Cond.code_spec hn (atoms_spec (ws := Jvm.Cond.code x code maxLocals ret :: tables_1) h _ List.mem_cons_self)
    exact ⟨meth, c, h1, h2, h3, h4, h5, h6⟩
  · intro p e s m args below meth c s₁ B hml0 hP _
    obtain ⟨rfl, hx, hbd, hgv⟩ := hP
    obtain ⟨scr, harrAt, hlist, hof, hsmall⟩ := hx
    obtain ⟨hcb, hkn, -, -⟩ := State.arrayAt?_spec harrAt
    have hown : s.vm.findClass R_law = some m.cls := findClass_of_methodNamed B.named
    have hts0 : ∀ c ∈ (Jvm.Cond.code x code maxLocals ret :: tables_1), c.before #[Value.ref b] s = true := atoms_spec (ws := Jvm.Cond.code x code maxLocals ret :: tables_1) B.pre
    have hts : ∀ w ∈ lw_tbl, w.before #[Value.ref b] s = true := k2_hts_sels lw_privs (fun w hw => hts0 w (List.mem_cons_of_mem _ hw)) lw_privs_ok
    have hml : c.maxLocals = 10 := B.maxLocals_eq (hts0 _ List.mem_cons_self)
    have X₀ : Stand p l e room_1 s m #[Value.ref b] below meth c s₁ [] 0 0 := Stand.of_body B
    have hh0 : s₁.heap = s.heap := by rw [B.state]; rfl
    have hsz : scr.slots.size = xs.length := by rw [← Array.length_toList, hlist, List.length_map]
    have hval : ∀ j : Nat, j < xs.length → scr.slots[j]? = some (.int (xs.getD j 0)) := fun j hj => by
      rw [← Array.getElem?_toList, hlist]
      simp [hj]
    have hbl : b < s.heap.size := (Array.getElem?_eq_some_iff.mp hcb).1
    have hX : va_X b xs.length (fun j => xs.getD j 0) s s.heap := ⟨scr, hcb, hof, hkn, hsz, hval⟩
    have K : W p l e room_1 s m #[Value.ref b] below meth c s₁.heap [] 0 0 (lw_Z below #[Value.ref b] s) (entryFrame m ([Value.ref b] : List Value).toArray 10) := by
      rw [hh0]
      exact whole_start l hflags hbd ⟨B.exec, B.bytes, B.returns, hml, hown, hts, hX, hbl, B.notSynchronized, hgv, (name_of_methodNamed B.named B.method).1⟩
    obtain ⟨t, a1, o, b1, b2, b3⟩ := K s₁ rfl X₀
    exact ⟨t, o, a1, b1, b2, b3⟩
theorem lw_pre_spec {args : Array Value} {s : State} (h : (Jvm.Cond.and given_1 narrow_1).before args s = true) (hr : rest_1_c.before args s = true) : ∃ (b : Addr) (xs : List Int32), lw_P b xs args s := by
  have hs := flat_of_before _ h
  have hq := flat_of_before _ hr
  have hc : (Cond.count 1).before args s = true := hs _ (by decide +kernel)
  have harr : (Cond.arrayOf (.arg 0) .int).before args s = true := hs _ (by decide +kernel)
  have hle : (Cond.le (.length (.arg 0)) (.int 260)).before args s = true := hs _ (by decide +kernel)
  have hlen : (Cond.isInt (.length (.arg 0))).before args s = true := hq _ (by decide +kernel)
  have hall : (Cond.all (.arg 0) (.isInt (.elem (.arg 0) (.index 0)))).before args s = true := hq _ (by decide +kernel)
  obtain ⟨b, xs, hb, hx⟩ := State.ints_of_pre rfl harr hlen hall
  have hsm : xs.length < 2 ^ 31 := hx.choose_spec.2.2.2
  have hev : (Term.length (.arg 0)).eval args s none [] s = some (.int xs.length.toInt32) := hx.length_eval hb
  have hv := Cond.le_ints hev (show (Term.int 260).eval args s none [] s = some (.int 260) from rfl)
  have hd : xs.length.toInt32 ≤ 260 := by
    simpa [Cond.before, Cond.holds, hv] using hle
  have hN : xs.length ≤ 260 := (Int32.ofNat_le_ofNat hsm (by decide)).mp (show Int32.ofNat xs.length ≤ Int32.ofNat 260 from hd)
  exact ⟨b, xs, Cond.one_arg hc (show args[0]? = some (.ref b) from hb), hx, hN, h⟩
theorem lw_comes (l : Launch) (hflags : l.flags = flags0) : Comes l x (Jvm.Cond.code x code maxLocals ret :: tables_1) room_1 (fun tb e args s => Calls_1 tb e args s ∧ rest_1 tb e args s ∧ Pre_1 tb e args s)
    (fun _ _ args s o t => lw_Q args s o t) := by
  intro p e ha hc hk s m args below hf hfit hheap happ hpre
  obtain ⟨b, xs, hP⟩ := lw_pre_spec hpre.2.2 hpre.2.1
  obtain ⟨k, o, h1, h2, h3, hQ⟩ := lw_walk l hflags b xs p e ha hc hk s m args below hf ((Spec.applies_iff_loose hf).mp happ).1 hP trivial
  exact ⟨k, o, h1, h2, h3, hQ⟩
theorem lw_frame {s t : State} {o : Outcome} {args : Array Value} (h : Framed s o t [] 600000 7302250) :
    Framed s o t (fieldLocs frame_1_writes args s ++ arrayLocs frame_1_arrays args s ++ staticLocs frame_1_statics s) 600000 7302250 := h
theorem lw_limb (L : Cond) (hL : ∀ (args : Array Value) (s t : State), L.after args s (.returned (some (.int 1))) t = true) :
    ArmFor flags0 classFile x code maxLocals ret World_1 tables_1 room_1 Calls_1 rest_1 Pre_1
      (fun tb e a s o t => postC L tb e a s o t ∧ Framed s o t (fieldLocs frame_1_writes a s ++ arrayLocs frame_1_arrays a s ++ staticLocs frame_1_statics s) 600000 7302250) := by
  intro l hflags _ _ p e ha hc hk s m args below hf hfit hheap happ hpre
  obtain ⟨k, o, h1, h2, h3, rfl, hF⟩ := lw_comes l hflags p e ha hc hk s m args below hf hfit hheap happ hpre
  exact ⟨k, _, h1, h2, h3, hL args s _, lw_frame hF⟩
theorem i_vc : Claimed_1_1 ∧ Claimed_1_2 := ⟨lw_limb limb_1_1 (fun args s t => by simp [limb_1_1, Cond.after, Cond.holds, Cond.value]), lw_limb limb_1_2 (fun args s t => Cond.after_iff.mpr (by
  first | (rw [show limb_1_2 = Cond.eq .result (.int 1) from rfl, Cond.eq_ints (x := 1) (y := 1) rfl rfl]; simp; done) | (simp [limb_1_2, Cond.value, Term.eval]; done)))⟩
