-- the world as whole numbers: values, cells, memories
abbrev AV : Type := Int ⊕ Option Nat
def toV : AV → Value
  | .inl z => .int (Int32.ofInt z)
  | .inr none => .null
  | .inr (some a) => .ref a
abbrev inR (z : Int) : Prop := -2147483648 ≤ z ∧ z < 2147483648
def wfv : AV → Prop
  | .inl z => inR z
  | .inr _ => True
abbrev AC : Type := (Nat × List AV) ⊕ (Nat × Nat × (Int → Int)) ⊕ (Nat × Nat × (Int → Option Nat)) ⊕ Option (Nat × (Int → Int64))
def obj (ci : Nat) (fs : List AV) : AC := .inl (ci, fs)
def iar (n : Nat) (f : Int → Int) : AC := .inr (.inl (0, n, f))
def car (n : Nat) (f : Int → Int) : AC := .inr (.inl (1, n, f))
def fiar (n : Nat) (f : Int → Int) : AC := .inr (.inl (2, n, f))
def rar (ci n : Nat) (g : Int → Option Nat) : AC := .inr (.inr (.inl (ci, n, g)))
def unk : AC := .inr (.inr (.inr none))
-- longs in a row
def lar (n : Nat) (f : Int → Int64) : AC := .inr (.inr (.inr (some (n, f))))
abbrev Mem : Type := Nat → AC
def upM (m : Mem) (a : Nat) (c : AC) : Mem := fun q => if q = a then c else m q
theorem upM_s {m : Mem} {a : Nat} {c : AC} : upM m a c a = c := if_pos rfl
theorem upM_n {m : Mem} {a q : Nat} {c : AC} (h : q ≠ a) : upM m a c q = m q := if_neg h
def upI {α : Type} (f : Int → α) (k : Int) (x : α) : Int → α := fun j => if j = k then x else f j
theorem upI_s {α : Type} {f : Int → α} {k : Int} {x : α} : upI f k x k = x := if_pos rfl
theorem upI_n {α : Type} {f : Int → α} {k j : Int} {x : α} (h : j ≠ k) : upI f k x j = f j := if_neg h
def rcl (ci : Nat) : String := match vwCl[ci]? with
  | some q => q.1
  | none => ""
abbrev GX : Type := Launch × va_G × Nat × Nat
abbrev Afr (G : GX) : Nat → Prop := fun q => G.2.2.1 ≤ q
def ity (t : Nat) : FieldType := if t = 1 then .char else .int
def arrOK (s : State) (H : Heap) (a t n : Nat) (f : Int → Int) : Prop := ∃ cA : ClassId, ArrOfT s cA (ity t) ∧ va_RA s cA (ity t) ∧ H[a]? = some (arrV cA n (fun j => .int (Int32.ofInt (f (j : Int)))))
-- an array that was there at the start: what its cell holds beside its elements isn't told
def frzOK (s : State) (H : Heap) (a t n : Nat) (f : Int → Int) : Prop := ∃ cell : Cell, H[a]? = some cell ∧ s.isArrayOf cell (ity t) ∧ cell.vm ≠ .unknown ∧ cell.slots.size = n ∧ ∀ j : Nat, j < n → cell.slots[j]? = some (.int (Int32.ofInt (f (j : Int))))
def hOK (G : GX) (s : State) (H : Heap) (a : Nat) : AC → Prop
  | .inl (ci, fs) => G.2.2.1 ≤ a ∧ (∀ v ∈ fs, wfv v) ∧ va_at G.2.1 vwCl (a, .inr (ci, fs.map toV)) H
  | .inr (.inl (t, n, f)) => (G.2.2.1 ≤ a ∨ n = 0 ∨ t = 2) ∧ (∀ k : Int, 0 ≤ k → k < n → inR (f k) ∧ (t = 1 → 0 ≤ f k ∧ f k < 65536)) ∧ (arrOK s H a t n f ∨ ((n = 0 ∨ t = 2) ∧ frzOK s H a t n f))
  | .inr (.inr (.inl (ci, n, g))) => G.2.2.1 ≤ a ∧ ∃ cA : ClassId, ArrOfT s cA (.object (rcl ci)) ∧ va_RA s cA (.object (rcl ci)) ∧ H[a]? = some (arrV cA n (fun j => va_rf (g (j : Int))))
  | .inr (.inr (.inr none)) => True
  | .inr (.inr (.inr (some (n, f)))) => G.2.2.1 ≤ a ∧ ∃ cA : ClassId, ArrOfT s cA .long ∧ va_RA s cA .long ∧ H[a]? = some (arrV cA n (fun j => .long (f (j : Int))))
def Rel (G : GX) (s : State) (H : Heap) (sz : Nat) (m : Mem) : Prop := H.size = sz ∧ G.2.2.1 ≤ sz ∧ ∀ a, hOK G s H a (m a)
def base (G : GX) (s : State) : Prop :=
  va_K G.2.1 vwCl [] s ∧ va_Z "PictureLog" "NO_VALUES" "[I" (.ref G.2.2.2) (Afr G) s s.heap ∧
  va_Nw (.fieldLinkNest RX0 42 "PictureLog" "NO_VALUES" "[I" RX5) s ∧ va_Nw (.methodLinkNest RX4 19 yX1_init RX5) s ∧ va_Nw (.methodLinkNest RX4 28 yX2_init RX5) s ∧
  va_Nw (.castable "[I" "java/lang/Cloneable") s ∧ va_AO RX2 s ∧ va_AO RX0 s ∧ va_AO RX4 s
theorem hOK_arr {G : GX} {s : State} {H : Heap} {a t n : Nat} {f : Int → Int} (h : hOK G s H a (.inr (.inl (t, n, f)))) (h0 : 0 < n) (h2 : t ≠ 2) : (G.2.2.1 ≤ a ∨ n = 0 ∨ t = 2) ∧ (∀ k : Int, 0 ≤ k → k < n → inR (f k) ∧ (t = 1 → 0 ≤ f k ∧ f k < 65536)) ∧ ∃ cA : ClassId, ArrOfT s cA (ity t) ∧ va_RA s cA (ity t) ∧ H[a]? = some (arrV cA n (fun j => .int (Int32.ofInt (f (j : Int))))) := by
  obtain ⟨h3, h4, h5 | ⟨h6, -⟩⟩ := h
  · exact ⟨h3, h4, h5⟩
  · rcases h6 with h6 | h6
    · omega
    · exact absurd h6 h2
theorem hOK_frz {G : GX} {s : State} {H : Heap} {a t n : Nat} {f : Int → Int} (h : hOK G s H a (.inr (.inl (t, n, f)))) : frzOK s H a t n f := by
  obtain ⟨-, -, ⟨cA, h3, h4, h5⟩ | ⟨-, h6⟩⟩ := h
  · exact ⟨_, h5, h3 _ _, (fun q => nomatch q), arrV_size _ _ _, fun j hj => arrV_read _ _ hj⟩
  · exact h6
theorem hOK.moved {G : GX} {s U : State} {H : Heap} {a : Nat} {c : AC} (hvm : s.vm.Alike U.vm) (h : hOK G s H a c) : hOK G U H a c := by
  rcases c with ⟨ci, fs⟩ | ⟨t, n, f⟩ | ⟨ci, n, g⟩ | _ | ⟨n, f⟩
  · exact h
  · obtain ⟨h1, h2, ⟨cA, h3, h4, h5⟩ | ⟨h6, cell, h7, h8, h9⟩⟩ := h
    · exact ⟨h1, h2, Or.inl ⟨cA, arrOfT_moved hvm h3, h4.moved hvm, h5⟩⟩
    · exact ⟨h1, h2, Or.inr ⟨h6, cell, h7, State.isArrayOf_alike hvm h8, h9⟩⟩
  · obtain ⟨h1, cA, h3, h4, h5⟩ := h
    exact ⟨h1, cA, arrOfT_moved hvm h3, h4.moved hvm, h5⟩
  · trivial
  · obtain ⟨h1, cA, h3, h4, h5⟩ := h
    exact ⟨h1, cA, arrOfT_moved hvm h3, h4.moved hvm, h5⟩
theorem hOK.kept {G : GX} {s : State} {H H1 : Heap} {a : Nat} {c : AC} (hq : H1[a]? = H[a]?) (h : hOK G s H a c) : hOK G s H1 a c := by
  rcases c with ⟨ci, fs⟩ | ⟨t, n, f⟩ | ⟨ci, n, g⟩ | _ | ⟨n, f⟩
  · exact ⟨h.1, h.2.1, h.2.2.kept hq⟩
  · obtain ⟨h1, h2, ⟨cA, h3, h4, h5⟩ | ⟨h6, cell, h7, h9⟩⟩ := h
    · exact ⟨h1, h2, Or.inl ⟨cA, h3, h4, hq.trans h5⟩⟩
    · exact ⟨h1, h2, Or.inr ⟨h6, cell, hq.trans h7, h9⟩⟩
  · obtain ⟨h1, cA, h3, h4, h5⟩ := h
    exact ⟨h1, cA, h3, h4, hq.trans h5⟩
  · trivial
  · obtain ⟨h1, cA, h3, h4, h5⟩ := h
    exact ⟨h1, cA, h3, h4, hq.trans h5⟩
theorem hOK.lt {G : GX} {s : State} {H : Heap} {a : Nat} {c : AC} (hc : c ≠ unk) (h : hOK G s H a c) : a < H.size := by
  rcases c with ⟨ci, fs⟩ | ⟨t, n, f⟩ | ⟨ci, n, g⟩ | _ | ⟨n, f⟩
  · exact h.2.2.lt
  · obtain ⟨h1, h2, ⟨cA, h3, h4, h5⟩ | ⟨h6, cell, h7, h9⟩⟩ := h
    · exact (Array.getElem?_eq_some_iff.mp h5).1
    · exact (Array.getElem?_eq_some_iff.mp h7).1
  · obtain ⟨h1, cA, h3, h4, h5⟩ := h
    exact (Array.getElem?_eq_some_iff.mp h5).1
  · exact absurd rfl hc
  · obtain ⟨h1, cA, h3, h4, h5⟩ := h
    exact (Array.getElem?_eq_some_iff.mp h5).1
theorem Rel.moved {G : GX} {s U : State} {H : Heap} {sz : Nat} {m : Mem} (hvm : s.vm.Alike U.vm) (h : Rel G s H sz m) : Rel G U H sz m := ⟨h.1, h.2.1, fun a => (h.2.2 a).moved hvm⟩
theorem Rel.set {G : GX} {s : State} {H H1 : Heap} {sz : Nat} {m : Mem} {a : Nat} {c : AC} (h : Rel G s H sz m) (z : H1.size = H.size) (oq : ∀ q : Nat, q ≠ a → H1[q]? = H[q]?) (hc : hOK G s H1 a c) : Rel G s H1 sz (upM m a c) := by
  refine ⟨z.trans h.1, h.2.1, fun q => ?_⟩
  by_cases hq : q = a
  · subst hq
    rw [upM_s]
    exact hc
  · rw [upM_n hq]
    exact (h.2.2 q).kept (oq q hq)
theorem Rel.push {G : GX} {s : State} {H H1 : Heap} {sz : Nat} {m : Mem} {c : AC} (h : Rel G s H sz m) (z : H1.size = sz + 1) (oq : ∀ q : Nat, q < sz → H1[q]? = H[q]?) (hc : hOK G s H1 sz c) : Rel G s H1 (sz + 1) (upM m sz c) := by
  refine ⟨z, Nat.le_succ_of_le h.2.1, fun q => ?_⟩
  by_cases hq : q = sz
  · subst hq
    rw [upM_s]
    exact hc
  · rw [upM_n hq]
    by_cases hu : m q = unk
    · rw [hu]
      trivial
    · have hlt := (h.2.2 q).lt hu
      rw [h.1] at hlt
      exact (h.2.2 q).kept (oq q hlt)
theorem base.moved {G : GX} {s U : State} {locs : List Loc} (hW : s.WarmedH U.vm) (hS : va_S (Afr G) s.heap U.heap locs) (h : base G s) : base G U := by
  obtain ⟨h1, h2, h3, h4, h5, h6, h7, h8, h9⟩ := h
  exact ⟨va_K.moved hW.alike h1, (va_Z.moved hW.alike h2).kept (fun a h1 h2 => hS.2.1 a h1 h2), h3.warmF hW, h4.warmM hW, h5.warmM hW, h6.warmC hW, h7.moved hW.alike, h8.moved hW.alike, h9.moved hW.alike⟩
theorem base.same {G : GX} {u U : State} (hv : u.vm = U.vm) (hh : u.heap = U.heap) (h : base G u) : base G U := by
  obtain ⟨h1, h2, h3, h4, h5, h6, h7, h8, h9⟩ := h
  have ha : u.vm.Alike U.vm := by rw [hv]; exact Vm.Alike.refl U.vm
  exact ⟨va_K.moved ha h1, by rw [← hh]; exact va_Z.moved ha h2, h3.same rfl hv, h4.same rfl hv, h5.same rfl hv, h6.same rfl hv, h7.moved ha, h8.moved ha, h9.moved ha⟩
-- locals
def lvl : Nat → List (Option AV) → List (Nat × Value)
  | _, [] => []
  | i, none :: t => lvl (i + 1) t
  | i, some v :: t => (i, toV v) :: lvl (i + 1) t
theorem mem_lvl {q : Nat × Value} : ∀ (L : List (Option AV)) (i : Nat), q ∈ lvl i L ↔ ∃ (j : Nat) (v : AV), L[j]? = some (some v) ∧ q = (i + j, toV v)
  | [], i => by simp [lvl]
  | none :: t, i => by
    rw [lvl, mem_lvl t (i + 1)]
    constructor
    · rintro ⟨j, v, h1, h2⟩
      exact ⟨j + 1, v, by simpa using h1, by rw [h2]; congr 1; omega⟩
    · rintro ⟨j, v, h1, h2⟩
      cases j with
      | zero => simp at h1
      | succ j => exact ⟨j, v, by simpa using h1, by rw [h2]; congr 1; omega⟩
  | some w :: t, i => by
    rw [lvl, List.mem_cons, mem_lvl t (i + 1)]
    constructor
    · rintro (h | ⟨j, v, h1, h2⟩)
      · exact ⟨0, w, rfl, h⟩
      · exact ⟨j + 1, v, by simpa using h1, by rw [h2]; congr 1; omega⟩
    · rintro ⟨j, v, h1, h2⟩
      cases j with
      | zero =>
        left
        simp at h1
        rw [h2, h1]
        rfl
      | succ j => exact Or.inr ⟨j, v, by simpa using h1, by rw [h2]; congr 1; omega⟩
def LV (ls : Array Slot) (nL : Nat) (L : List (Option AV)) : Prop := L.length = nL ∧ lv_has ls nL (lvl 0 L)
theorem LV.at {ls : Array Slot} {nL : Nat} {L : List (Option AV)} (h : LV ls nL L) {i : Nat} {v : AV} (hi : L[i]? = some (some v)) : ls[i]? = some (.val (toV v)) := by
  have := h.2.2.2 (0 + i, toV v) ((mem_lvl L 0).mpr ⟨i, v, hi, rfl⟩)
  rwa [Nat.zero_add] at this
theorem toV_cat (v : AV) : (toV v).category = 1 := by
  rcases v with z | _ | a <;> rfl
theorem LV.set {ls ls' : Array Slot} {nL : Nat} {L : List (Option AV)} (h : LV ls nL L) {i : Nat} {v : AV} (h' : lv_has ls' nL ((i, toV v) :: (lvl 0 L).filter (fun q => !(q.1 == i) && !(q.1 + 1 == i && q.2.category == 2)))) : LV ls' nL (L.set i (some v)) := by
  refine ⟨by rw [List.length_set]; exact h.1, h'.1, h'.2.1, fun q hq => h'.2.2 q ?_⟩
  obtain ⟨j, w, h1, h2⟩ := (mem_lvl _ 0).mp hq
  rw [Nat.zero_add] at h2
  subst h2
  by_cases hj : j = i
  · subst hj
    rw [List.getElem?_set_self' ] at h1
    cases hL : L[j]? with
    | none => rw [hL] at h1; cases h1
    | some x =>
      rw [hL] at h1
      simp at h1
      rw [h1]
      exact List.mem_cons_self
  · rw [List.getElem?_set_ne (Ne.symm hj)] at h1
    refine List.mem_cons_of_mem _ (List.mem_filter.mpr ⟨(mem_lvl L 0).mpr ⟨j, w, h1, by rw [Nat.zero_add]⟩, ?_⟩)
    simp [hj, toV_cat]
theorem lgl_len : ∀ vs : List AV, (lg_sl (vs.map toV)).length = vs.length
  | [] => rfl
  | v :: vs => by
    have h := lgl_len vs
    simp only [lg_sl, List.map_cons, List.flatMap_cons, List.length_append, List.length_cons] at h ⊢
    rw [toV_cat, h]
    simp
    omega
theorem lva_map : ∀ (vs : List AV) (i n : Nat), lv_args i (vs.map toV) = lvl i (vs.map some ++ List.replicate n none)
  | [], i, 0 => rfl
  | [], i, n + 1 => by
    have h := lva_map [] (i + 1) n
    simp only [List.map_nil, List.nil_append, lv_args] at h ⊢
    rw [List.replicate_succ, lvl]
    exact h
  | v :: vs, i, n => by
    simp only [List.map_cons, List.cons_append, lv_args, lvl, toV_cat]
    rw [if_neg (by decide), lva_map vs (i + 1) n]
theorem LV.entry {vs : List AV} {n : Nat} (h : vs.length ≤ n) : LV ((lg_sl (vs.map toV) ++ List.replicate (n - (lg_sl (vs.map toV)).length) Slot.unset).toArray) n (vs.map some ++ List.replicate (n - vs.length) none) := by
  refine ⟨by simp; omega, ?_⟩
  rw [← lva_map vs 0 (n - vs.length)]
  exact lv_entry (vs.map toV) (by rw [lgl_len]; exact h)
-- the judgement over the world as whole numbers
abbrev QF : Type := State → List Frame → Array Value → State → Prop
def CX (G : GX) (y : MK) (p : Program) (s : State) (mid : MethodId) (args : Array Value) (meth : Method) (c : Code) : Prop :=
  p.tables.exec = Jvm.exec ∧ c.code = y.2.1 ∧ c.maxLocals = y.2.2.1 ∧ meth.sig.returnType = y.2.2.2 ∧ meth.locks = false ∧ s.vm.findClass y.1.cls = some mid.cls ∧ meth.name = y.1.name ∧ (∀ w ∈ GW, w.before args s = true) ∧ base G s
def WS (L : List (Option AV)) (st : List AV) : Prop := (∀ (i : Nat) (v : AV), L[i]? = some (some v) → wfv v) ∧ ∀ v ∈ st, wfv v
def V (G : GX) (y : MK) (R : Room) (Qf : QF) (pc : Nat) (L : List (Option AV)) (st : List AV) (sz : Nat) (m : Mem) (k n : Nat) : Prop :=
  ∀ (p : Program) (e : Env) (s : State) (mid : MethodId) (args : Array Value) (below : List Frame) (meth : Method) (c : Code) (H : Heap) (locs : List Loc) (ls : Array Slot),
    CX G y p s mid args meth c → Rel G s H sz m → va_S (Afr G) s.heap H locs → LV ls y.2.2.1 L → WS L st →
    W p G.1 e R s mid args below meth c H locs k n (Qf s below args) (F0 mid pc ls (st.map toV))
abbrev PO : Type := Option AV → Nat → Mem → Prop
def wsM (y : MK) : List Cond := Cond.code y.1 y.2.1 y.2.2.1 y.2.2.2 :: GW
def rmM (d mc ms : Nat) : Room := { frames := d, cells := mc, slots := ms, locals := 40 * d }
def PcA (G : GX) (args : List AV) (sz : Nat) (m : Mem) : Array Value → State → Prop := fun av U => av = (args.map toV).toArray ∧ (∀ v ∈ args, wfv v) ∧ base G U ∧ Rel G U U.heap sz m
def QcA (G : GX) (P : PO) : Array Value → State → Outcome → State → Prop := fun _ st o t => ∃ (r : Option AV) (sz : Nat) (m : Mem), o = .returned (r.map toV) ∧ P r sz m ∧ (∀ v, r = some v → wfv v) ∧ Rel G t t.heap sz m ∧ va_F (Afr G) st t
def Ok (G : GX) (y : MK) (d : Nat) (args : List AV) (sz : Nat) (m : Mem) (mc ms : Nat) (P : PO) : Prop := Met G.1 y.1 (wsM y) (rmM d mc ms) (PcA G args sz m) (QcA G P) mc ms (Afr G)
def QfM (G : GX) (P : PO) (mc ms : Nat) : QF := fun s below args => MQ below (QcA G P) args s mc ms (Afr G)
theorem Ok.body {G : GX} {y : MK} {d : Nat} {args : List AV} {sz : Nat} {m : Mem} {mc ms : Nat} {P : PO} (L : List (Option AV)) (hL : args.map some ++ List.replicate (y.2.2.1 - args.length) none = L) (hn : args.length ≤ y.2.2.1) (hpl : plainName y.1.cls = true)
    (body : V G y (rmM d mc ms) (QfM G P mc ms) 0 L [] sz m 0 0) : Ok G y d args sz m mc ms P := by
  subst hL
  refine Met.ofW (cc := y.2.1) (maxL := y.2.2.1) (ret := y.2.2.2) hpl rfl ?_
  intro p e s mid av below meth c s₁ B hml hv
  obtain ⟨rfl, hwf, hbase, hrel⟩ := hv
  rw [lg_entry_eq]
  have hts := atoms_spec (ws := wsM y) B.pre
  refine body p e s mid _ below meth c s.heap [] _ ⟨B.exec, B.bytes, hml, B.returns, B.notSynchronized, findClass_of_methodNamed B.named, (name_of_methodNamed B.named B.method).1, fun w hw => hts w (List.mem_cons_of_mem _ hw), hbase⟩ hrel va_S.rf (LV.entry hn) ⟨fun i v h => ?_, fun v h => by cases h⟩
  have hm := List.mem_of_getElem? h
  rcases List.mem_append.mp hm with h1 | h1
  · obtain ⟨w, hw, h2⟩ := List.mem_map.mp h1
    cases h2
    exact hwf v hw
  · cases (List.mem_replicate.mp h1).2
