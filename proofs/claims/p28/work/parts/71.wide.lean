-- the world with longs
abbrev LW : Type := AV ⊕ Int64
abbrev wi (z : Int) : LW := .inl (.inl z)
abbrev wr (r : Option Nat) : LW := .inl (.inr r)
abbrev wl (x : Int64) : LW := .inr x
def toW : LW → Value
  | .inl v => toV v
  | .inr x => .long x
def wfw : LW → Prop
  | .inl v => wfv v
  | .inr _ => True
def ctw : LW → Nat
  | .inl _ => 1
  | .inr _ => 2
def cws : List LW → Nat
  | [] => 0
  | v :: t => ctw v + cws t
theorem toW_cat (v : LW) : (toW v).category = ctw v := by
  rcases v with v | x
  · exact toV_cat v
  · rfl
theorem cws_sum : ∀ st : List LW, ((st.map toW).map fun v => v.category).sum = cws st
  | [] => rfl
  | v :: st => by
    simp only [List.map_cons, List.sum_cons]
    rw [cws_sum st, toW_cat]
    rfl
def lvw : Nat → List (Option LW) → List (Nat × Value)
  | _, [] => []
  | i, none :: t => lvw (i + 1) t
  | i, some v :: t => (i, toW v) :: lvw (i + 1) t
theorem mem_lvw {q : Nat × Value} : ∀ (L : List (Option LW)) (i : Nat), q ∈ lvw i L ↔ ∃ (j : Nat) (v : LW), L[j]? = some (some v) ∧ q = (i + j, toW v)
  | [], i => by simp [lvw]
  | none :: t, i => by
    rw [lvw, mem_lvw t (i + 1)]
    constructor
    · rintro ⟨j, v, h1, h2⟩
      exact ⟨j + 1, v, by simpa using h1, by rw [h2]; congr 1; omega⟩
    · rintro ⟨j, v, h1, h2⟩
      cases j with
      | zero => simp at h1
      | succ j => exact ⟨j, v, by simpa using h1, by rw [h2]; congr 1; omega⟩
  | some w :: t, i => by
    rw [lvw, List.mem_cons, mem_lvw t (i + 1)]
    constructor
    · rintro (h | ⟨j, v, h1, h2⟩)
      · exact ⟨0, w, rfl, h⟩
      · exact ⟨j + 1, v, by simpa using h1, by rw [h2]; congr 1; omega⟩
    · rintro ⟨j, v, h1, h2⟩
      cases j with
      | zero =>
        left
        simp at h1
        rw [h2, h1]
        rfl
      | succ j => exact Or.inr ⟨j, v, by simpa using h1, by rw [h2]; congr 1; omega⟩
def LVw (ls : Array Slot) (nL : Nat) (L : List (Option LW)) : Prop := L.length = nL ∧ lv_has ls nL (lvw 0 L)
theorem LVw.at {ls : Array Slot} {nL : Nat} {L : List (Option LW)} (h : LVw ls nL L) {i : Nat} {v : LW} (hi : L[i]? = some (some v)) : ls[i]? = some (.val (toW v)) := by
  have := h.2.2.2 (0 + i, toW v) ((mem_lvw L 0).mpr ⟨i, v, hi, rfl⟩)
  rwa [Nat.zero_add] at this
-- no long's second half is at place i
def freeAt : List (Option LW) → Nat → Bool
  | _, 0 => true
  | [], _ + 1 => true
  | some (.inr _) :: _, 1 => false
  | _ :: t, i + 1 => freeAt t i
theorem freeAt_of : ∀ {L : List (Option LW)} {i : Nat}, freeAt L i = true → ∀ (j : Nat) (v : LW), j + 1 = i → L[j]? = some (some v) → ctw v = 1
  | L, 0, _, j, v, h1, _ => by omega
  | [], i + 1, _, j, v, h1, h2 => by simp at h2
  | x :: t, 1, hf, j, v, h1, h2 => by
    have hj : j = 0 := by omega
    subst hj
    simp at h2
    subst h2
    rcases v with v | y
    · rfl
    · cases hf
  | x :: t, i + 2, hf, j, v, h1, h2 => by
    obtain ⟨j', rfl⟩ : ∃ j', j = j' + 1 := ⟨j - 1, by omega⟩
    have hf2 : freeAt t (i + 1) = true := by
      rcases x with _ | ⟨x | x⟩ <;> exact hf
    exact freeAt_of hf2 j' v (by omega) (by simpa using h2)
theorem LVw.set {ls ls' : Array Slot} {nL : Nat} {L : List (Option LW)} (h : LVw ls nL L) {i : Nat} {v : LW} (hf : freeAt L i = true) (h' : lv_has ls' nL ((i, toW v) :: (lvw 0 L).filter (fun q => !(q.1 == i) && !(q.1 + 1 == i && q.2.category == 2)))) : LVw ls' nL (L.set i (some v)) := by
  refine ⟨by rw [List.length_set]; exact h.1, h'.1, h'.2.1, fun q hq => h'.2.2 q ?_⟩
  obtain ⟨j, w, h1, h2⟩ := (mem_lvw _ 0).mp hq
  rw [Nat.zero_add] at h2
  subst h2
  by_cases hj : j = i
  · subst hj
    rw [List.getElem?_set_self' ] at h1
    cases hL : L[j]? with
    | none => rw [hL] at h1; cases h1
    | some x =>
      rw [hL] at h1
      simp at h1
      rw [h1]
      exact List.mem_cons_self
  · rw [List.getElem?_set_ne (Ne.symm hj)] at h1
    refine List.mem_cons_of_mem _ (List.mem_filter.mpr ⟨(mem_lvw L 0).mpr ⟨j, w, h1, by rw [Nat.zero_add]⟩, ?_⟩)
    by_cases hq : j + 1 = i
    · have := freeAt_of hf j w hq h1
      simp [hj, toW_cat, this]
    · simp [hj, hq]
theorem LVw.setL {ls ls' : Array Slot} {nL : Nat} {L : List (Option LW)} (h : LVw ls nL L) {i : Nat} {x : Int64} (hf : freeAt L i = true) (h' : lv_has ls' nL ((i, Value.long x) :: (lvw 0 L).filter (fun q => !(q.1 == i) && (!(q.1 == i + 1) && !(q.1 + 1 == i && q.2.category == 2))))) : LVw ls' nL ((L.set i (some (wl x))).set (i + 1) none) := by
  refine ⟨by rw [List.length_set, List.length_set]; exact h.1, h'.1, h'.2.1, fun q hq => h'.2.2 q ?_⟩
  obtain ⟨j, w, h1, h2⟩ := (mem_lvw _ 0).mp hq
  rw [Nat.zero_add] at h2
  subst h2
  by_cases hj2 : j = i + 1
  · subst hj2
    rw [List.getElem?_set_self'] at h1
    cases hL : (L.set i (some (wl x)))[i + 1]? with
    | none => rw [hL] at h1; cases h1
    | some y => rw [hL] at h1; cases h1
  rw [List.getElem?_set_ne (Ne.symm hj2)] at h1
  by_cases hj : j = i
  · subst hj
    rw [List.getElem?_set_self' ] at h1
    cases hL : L[j]? with
    | none => rw [hL] at h1; cases h1
    | some y =>
      rw [hL] at h1
      simp at h1
      rw [← h1]
      exact List.mem_cons_self
  · rw [List.getElem?_set_ne (Ne.symm hj)] at h1
    refine List.mem_cons_of_mem _ (List.mem_filter.mpr ⟨(mem_lvw L 0).mpr ⟨j, w, h1, by rw [Nat.zero_add]⟩, ?_⟩)
    by_cases hq : j + 1 = i
    · have := freeAt_of hf j w hq h1
      simp [hj, hj2, toW_cat, this]
    · simp [hj, hj2, hq]
def w1 : LW → List (Option LW)
  | .inl v => [some (.inl v)]
  | .inr x => [some (.inr x), none]
theorem lgw_len : ∀ vs : List LW, (lg_sl (vs.map toW)).length = (vs.flatMap w1).length
  | [] => rfl
  | v :: vs => by
    have h := lgw_len vs
    simp only [lg_sl, List.map_cons, List.flatMap_cons, List.length_append] at h ⊢
    rw [h]
    rcases v with v | x
    · rw [show (toW (.inl v)) = toV v from rfl, toV_cat]
      rfl
    · rfl
theorem lvw_args : ∀ (vs : List LW) (i n : Nat), lv_args i (vs.map toW) = lvw i (vs.flatMap w1 ++ List.replicate n none)
  | [], i, 0 => rfl
  | [], i, n + 1 => by
    have h := lvw_args [] (i + 1) n
    simp only [List.map_nil, List.flatMap_nil, List.nil_append, lv_args] at h ⊢
    rw [List.replicate_succ, lvw]
    exact h
  | .inl v :: vs, i, n => by
    simp only [List.map_cons, List.flatMap_cons, w1, List.cons_append, List.nil_append, lv_args, lvw, toW, toV_cat]
    rw [if_neg (by decide), lvw_args vs (i + 1) n]
  | .inr x :: vs, i, n => by
    simp only [List.map_cons, List.flatMap_cons, w1, List.cons_append, List.nil_append, lv_args, lvw, toW]
    rw [if_pos (show (Value.long x).category = 2 from rfl), lvw_args vs (i + 2) n]
theorem LVw.entry {vs : List LW} {n : Nat} (h : (vs.flatMap w1).length ≤ n) : LVw ((lg_sl (vs.map toW) ++ List.replicate (n - (lg_sl (vs.map toW)).length) Slot.unset).toArray) n (vs.flatMap w1 ++ List.replicate (n - (vs.flatMap w1).length) none) := by
  refine ⟨by rw [List.length_append, List.length_replicate]; omega, ?_⟩
  rw [← lvw_args vs 0 (n - (vs.flatMap w1).length)]
  exact lv_entry (vs.map toW) (by rw [lgw_len]; exact h)
-- the judgement
def WSw (L : List (Option LW)) (st : List LW) : Prop := (∀ (i : Nat) (v : LW), L[i]? = some (some v) → wfw v) ∧ ∀ v ∈ st, wfw v
def Vw (G : GX) (y : MK) (R : Room) (Qf : QF) (pc : Nat) (L : List (Option LW)) (st : List LW) (sz : Nat) (m : Mem) (k n : Nat) : Prop :=
  ∀ (p : Program) (e : Env) (s : State) (mid : MethodId) (args : Array Value) (below : List Frame) (meth : Method) (c : Code) (H : Heap) (locs : List Loc) (ls : Array Slot),
    CX G y p s mid args meth c → Rel G s H sz m → va_S (Afr G) s.heap H locs → LVw ls y.2.2.1 L → WSw L st →
    W p G.1 e R s mid args below meth c H locs k n (Qf s below args) (F0 mid pc ls (st.map toW))
abbrev POw : Type := Option LW → Nat → Mem → Prop
def PcW (G : GX) (args : List LW) (sz : Nat) (m : Mem) : Array Value → State → Prop := fun av U => av = (args.map toW).toArray ∧ (∀ v ∈ args, wfw v) ∧ base G U ∧ Rel G U U.heap sz m
def QcW (G : GX) (P : POw) : Array Value → State → Outcome → State → Prop := fun _ st o t => ∃ (r : Option LW) (sz : Nat) (m : Mem), o = .returned (r.map toW) ∧ P r sz m ∧ (∀ v, r = some v → wfw v) ∧ Rel G t t.heap sz m ∧ va_F (Afr G) st t
def OkW (G : GX) (y : MK) (d : Nat) (args : List LW) (sz : Nat) (m : Mem) (mc ms : Nat) (P : POw) : Prop := Met G.1 y.1 (wsM y) (rmM d mc ms) (PcW G args sz m) (QcW G P) mc ms (Afr G)
def QfW (G : GX) (P : POw) (mc ms : Nat) : QF := fun s below args => MQ below (QcW G P) args s mc ms (Afr G)
theorem OkW.body {G : GX} {y : MK} {d : Nat} {args : List LW} {sz : Nat} {m : Mem} {mc ms : Nat} {P : POw} (L : List (Option LW)) (hL : args.flatMap w1 ++ List.replicate (y.2.2.1 - (args.flatMap w1).length) none = L) (hn : (args.flatMap w1).length ≤ y.2.2.1) (hpl : plainName y.1.cls = true)
    (body : Vw G y (rmM d mc ms) (QfW G P mc ms) 0 L [] sz m 0 0) : OkW G y d args sz m mc ms P := by
  subst hL
  refine Met.ofW (cc := y.2.1) (maxL := y.2.2.1) (ret := y.2.2.2) hpl rfl ?_
  intro p e s mid av below meth c s₁ B hml hv
  obtain ⟨rfl, hwf, hbase, hrel⟩ := hv
  rw [lg_entry_eq]
  have hts := atoms_spec (ws := wsM y) B.pre
  refine body p e s mid _ below meth c s.heap [] _ ⟨B.exec, B.bytes, hml, B.returns, B.notSynchronized, findClass_of_methodNamed B.named, (name_of_methodNamed B.named B.method).1, fun w hw => hts w (List.mem_cons_of_mem _ hw), hbase⟩ hrel va_S.rf (LVw.entry hn) ⟨fun i v h => ?_, fun v h => by cases h⟩
  have hm := List.mem_of_getElem? h
  rcases List.mem_append.mp hm with h1 | h1
  · obtain ⟨w, hw, h2⟩ := List.mem_flatMap.mp h1
    have hwv := hwf w hw
    rcases w with w | x
    · simp [w1] at h2
      rw [h2]
      exact hwv
    · simp [w1] at h2
      rw [h2]
      trivial
  · cases (List.mem_replicate.mp h1).2
-- a contract without longs is one with
def liftP (P : PO) : POw := fun r z m => ∃ q : Option AV, r = q.map Sum.inl ∧ P q z m
theorem OkW.of {G : GX} {y : MK} {d : Nat} {args : List AV} {sz : Nat} {m : Mem} {mc ms : Nat} {P : PO} (ok : Ok G y d args sz m mc ms P) : OkW G y d (args.map Sum.inl) sz m mc ms (liftP P) := by
  intro p e ha hc hk s mid av below hf happ hP hT
  obtain ⟨q1, q2, q3, q4⟩ := hP
  obtain ⟨t, o, h1, h2, h3, ⟨r, z, m', e1, e2, e3, e4⟩, h5⟩ := ok p e ha hc hk s mid av below hf happ ⟨by rw [q1, List.map_map]; rfl, fun v hv => q2 (.inl v) (List.mem_map.mpr ⟨v, hv, rfl⟩), q3, q4⟩ hT
  exact ⟨t, o, h1, h2, h3, ⟨r.map Sum.inl, z, m', by rw [e1, Option.map_map]; rfl, ⟨r, rfl, e2⟩, fun v hv => by
    cases r with
    | none => cases hv
    | some x => cases hv; exact e3 x rfl, e4⟩, h5⟩
theorem okPost {G : GX} {y : MK} {d : Nat} {args : List AV} {sz : Nat} {m : Mem} {mc ms : Nat} {P Q : PO} (ok : Ok G y d args sz m mc ms P) (hp : ∀ r z m', P r z m' → Q r z m') : Ok G y d args sz m mc ms Q := by
  intro p e ha hc hk s mid av below hf happ hP hT
  obtain ⟨t, o, h1, h2, h3, ⟨r, z, m', e1, e2, e3⟩, h5⟩ := ok p e ha hc hk s mid av below hf happ hP hT
  exact ⟨t, o, h1, h2, h3, ⟨r, z, m', e1, hp r z m' e2, e3⟩, h5⟩
theorem okwPost {G : GX} {y : MK} {d : Nat} {args : List LW} {sz : Nat} {m : Mem} {mc ms : Nat} {P Q : POw} (ok : OkW G y d args sz m mc ms P) (hp : ∀ r z m', P r z m' → Q r z m') : OkW G y d args sz m mc ms Q := by
  intro p e ha hc hk s mid av below hf happ hP hT
  obtain ⟨t, o, h1, h2, h3, ⟨r, z, m', e1, e2, e3⟩, h5⟩ := ok p e ha hc hk s mid av below hf happ hP hT
  exact ⟨t, o, h1, h2, h3, ⟨r, z, m', e1, hp r z m' e2, e3⟩, h5⟩
theorem okwKeep {G : GX} {y : MK} {d : Nat} {args : List LW} {sz : Nat} {m : Mem} {mc ms : Nat} {P : Option LW → Prop} {b b2 : Nat} (hb : b < G.2.2.1) (hb2 : b2 < G.2.2.1) (ok : OkW G y d args sz m mc ms (fun r _ _ => P r)) : OkW G y d args sz m mc ms (fun r z m' => P r ∧ m' b = m b ∧ m' b2 = m b2) := by
  intro p e ha hc hk s mid av below hf happ hP hT
  obtain ⟨t, o, h1, h2, h3, ⟨r, z, m', e1, e2, e3, e4, e5⟩, L, h5, h6⟩ := ok p e ha hc hk s mid av below hf happ hP hT
  have hR : Rel G s s.heap sz m := hP.2.2.2
  have kp : ∀ b, b < G.2.2.1 → hOK G (stepsAlone p.tables e t s) (stepsAlone p.tables e t s).heap b (m b) := fun b hb => by
    have hq : b < sz := Nat.lt_of_lt_of_le hb hR.2.1
    have hh := e5.2 b (by rw [hR.1]; exact hq) (fun g => by have : G.2.2.1 ≤ b := g; omega)
    exact ((hR.2.2 b).moved h5.2.1.alike).kept hh
  refine ⟨t, o, h1, h2, h3, ⟨r, z, upM (upM m' b (m b)) b2 (m b2), e1, ⟨e2, ?_, upM_s⟩, e3, (e4.set rfl (fun _ _ => rfl) (kp b hb)).set rfl (fun _ _ => rfl) (kp b2 hb2), e5⟩, L, h5, h6⟩
  by_cases q : b = b2
  · subst q
    rw [upM_s]
  · rw [upM_n q, upM_s]
theorem okKeep {G : GX} {y : MK} {d : Nat} {args : List AV} {sz : Nat} {m : Mem} {mc ms : Nat} {P : PO} {b : Nat} (hb : b < G.2.2.1) (ok : Ok G y d args sz m mc ms P) : Ok G y d args sz m mc ms (fun r z m' => ∃ m1, P r z m1 ∧ m' = upM m1 b (m b)) := by
  intro p e ha hc hk s mid av below hf happ hP hT
  obtain ⟨t, o, h1, h2, h3, ⟨r, z, m', e1, e2, e3, e4, e5⟩, L, h5, h6⟩ := ok p e ha hc hk s mid av below hf happ hP hT
  have hR : Rel G s s.heap sz m := hP.2.2.2
  have hq : b < sz := Nat.lt_of_lt_of_le hb hR.2.1
  have hh := e5.2 b (by rw [hR.1]; exact hq) (fun g => by have : G.2.2.1 ≤ b := g; omega)
  exact ⟨t, o, h1, h2, h3, ⟨r, z, upM m' b (m b), e1, ⟨m', e2, rfl⟩, e3, e4.set rfl (fun _ _ => rfl) (((hR.2.2 b).moved h5.2.1.alike).kept hh), e5⟩, L, h5, h6⟩
theorem wconsw {v : LW} {st : List LW} (hv : wfw v) (h : ∀ w ∈ st, wfw w) : ∀ w ∈ v :: st, wfw w := List.forall_mem_cons.mpr ⟨hv, h⟩
theorem WSw.tl {L : List (Option LW)} {v : LW} {st : List LW} (h : WSw L (v :: st)) : WSw L st := ⟨h.1, fun w hw => h.2 w (List.mem_cons_of_mem _ hw)⟩
theorem WSw.hd {L : List (Option LW)} {v : LW} {st : List LW} (h : WSw L (v :: st)) : wfw v := h.2 v List.mem_cons_self
theorem WSw.push {L : List (Option LW)} {v : LW} {st : List LW} (hv : wfw v) (h : WSw L st) : WSw L (v :: st) := ⟨h.1, wconsw hv h.2⟩
theorem WSw.set {L : List (Option LW)} {i : Nat} {v : LW} {st : List LW} (hv : wfw v) (h : WSw L st) : WSw (L.set i (some v)) st := by
  refine ⟨fun j w hj => ?_, h.2⟩
  by_cases hi : j = i
  · subst hi
    rw [List.getElem?_set_self'] at hj
    cases hL : L[j]? with
    | none => rw [hL] at hj; cases hj
    | some x =>
      rw [hL] at hj
      simp at hj
      rw [← hj]
      exact hv
  · rw [List.getElem?_set_ne (Ne.symm hi)] at hj
    exact h.1 j w hj
theorem WSw.setN {L : List (Option LW)} {i : Nat} {st : List LW} (h : WSw L st) : WSw (L.set i none) st := by
  refine ⟨fun j w hj => ?_, h.2⟩
  by_cases hi : j = i
  · subst hi
    rw [List.getElem?_set_self'] at hj
    cases hL : L[j]? with
    | none => rw [hL] at hj; cases hj
    | some x => rw [hL] at hj; cases hj
  · rw [List.getElem?_set_ne (Ne.symm hi)] at hj
    exact h.1 j w hj
section
variable {G : GX} {y : MK} {R : Room} {Qf : QF} {pc pc' : Nat} {L : List (Option LW)} {st : List LW} {sz : Nat} {m : Mem} {k n : Nat}
theorem Vw.iconst {z : Int} (h : At y pc (.iconst z) 1 pc') (hz : inR z) (kk : Vw G y R Qf pc' L (wi z :: st) sz m k n) : Vw G y R Qf pc L st sz m k n := by
  obtain ⟨hd, rfl⟩ := h
  intro p e s mid args below meth c H locs ls hC hR hS hL hW
  exact lv_iconst hC.1 hC.2.1 hd rfl (kk p e s mid args below meth c H locs ls hC hR hS hL (hW.push hz))
theorem Vw.bipush {z : Int} (h : At y pc (.bipush z) 2 pc') (hv : (Int8.ofInt z).toInt32 = Int32.ofInt z) (hz : inR z) (kk : Vw G y R Qf pc' L (wi z :: st) sz m k n) : Vw G y R Qf pc L st sz m k n := by
  obtain ⟨hd, rfl⟩ := h
  intro p e s mid args below meth c H locs ls hC hR hS hL hW
  exact lv_bipush hC.1 hC.2.1 hd hv (kk p e s mid args below meth c H locs ls hC hR hS hL (hW.push hz))
theorem Vw.sipush {z : Int} (h : At y pc (.sipush z) 3 pc') (hv : (Int16.ofInt z).toInt32 = Int32.ofInt z) (hz : inR z) (kk : Vw G y R Qf pc' L (wi z :: st) sz m k n) : Vw G y R Qf pc L st sz m k n := by
  obtain ⟨hd, rfl⟩ := h
  intro p e s mid args below meth c H locs ls hC hR hS hL hW
  exact lv_sipush hC.1 hC.2.1 hd hv (kk p e s mid args below meth c H locs ls hC hR hS hL (hW.push hz))
theorem Vw.lconst {z : Fin 2} {x : Int64} (h : At y pc (.lconst z) 1 pc') (hx : Int64.ofNat (z : Nat) = x) (kk : Vw G y R Qf pc' L (wl x :: st) sz m k n) : Vw G y R Qf pc L st sz m k n := by
  obtain ⟨hd, rfl⟩ := h
  intro p e s mid args below meth c H locs ls hC hR hS hL hW
  exact lv_lconst hC.1 hC.2.1 hd hx (kk p e s mid args below meth c H locs ls hC hR hS hL (hW.push trivial))
theorem Vw.ldc {i : Nat} {z : Int} (h : At y pc (.ldc i) 2 pc') (hq : Cond.constant y.1.cls i (Int32.ofInt z) ∈ GW) (hz : inR z) (kk : Vw G y R Qf pc' L (wi z :: st) sz m k n) : Vw G y R Qf pc L st sz m k n := by
  obtain ⟨hd, rfl⟩ := h
  intro p e s mid args below meth c H locs ls hC hR hS hL hW
  have hx := hC
  obtain ⟨hexec, hb, hml, hrt, hlk, hown, hnm, hts, hB⟩ := hx
  exact lv_ldc hC.1 hC.2.1 hown (hts _ hq) hd (kk p e s mid args below meth c H locs ls hC hR hS hL (hW.push hz))
theorem Vw.ldc2 {i : Nat} {x : Int64} (h : At y pc (.ldc2_w i) 3 pc') (hq : Cond.constantLong y.1.cls i x ∈ GW) (kk : Vw G y R Qf pc' L (wl x :: st) sz m k n) : Vw G y R Qf pc L st sz m k n := by
  obtain ⟨hd, rfl⟩ := h
  intro p e s mid args below meth c H locs ls hC hR hS hL hW
  have hx := hC
  obtain ⟨hexec, hb, hml, hrt, hlk, hown, hnm, hts, hB⟩ := hx
  exact lv_ldc2 hC.1 hC.2.1 hown (hts _ hq) hd (kk p e s mid args below meth c H locs ls hC hR hS hL (hW.push trivial))
theorem Vw.iload_n {i : Fin 4} {z : Int} (h : At y pc (.iload_n i) 1 pc') (hi : L[(i : Nat)]? = some (some (wi z))) (kk : Vw G y R Qf pc' L (wi z :: st) sz m k n) : Vw G y R Qf pc L st sz m k n := by
  obtain ⟨hd, rfl⟩ := h
  intro p e s mid args below meth c H locs ls hC hR hS hL hW
  exact lv_iload_n hC.1 hC.2.1 hd rfl (hL.at hi) (kk p e s mid args below meth c H locs ls hC hR hS hL (hW.push (hW.1 _ _ hi)))
theorem Vw.iload {i : Nat} {z : Int} (h : At y pc (.iload i) 2 pc') (hi : L[i]? = some (some (wi z))) (kk : Vw G y R Qf pc' L (wi z :: st) sz m k n) : Vw G y R Qf pc L st sz m k n := by
  obtain ⟨hd, rfl⟩ := h
  intro p e s mid args below meth c H locs ls hC hR hS hL hW
  exact lv_iload hC.1 hC.2.1 hd (hL.at hi) (kk p e s mid args below meth c H locs ls hC hR hS hL (hW.push (hW.1 _ _ hi)))
theorem Vw.lload_n {i : Fin 4} {x : Int64} (h : At y pc (.lload_n i) 1 pc') (hi : L[(i : Nat)]? = some (some (wl x))) (kk : Vw G y R Qf pc' L (wl x :: st) sz m k n) : Vw G y R Qf pc L st sz m k n := by
  obtain ⟨hd, rfl⟩ := h
  intro p e s mid args below meth c H locs ls hC hR hS hL hW
  exact lv_lload_n hC.1 hC.2.1 hd rfl (hL.at hi) (kk p e s mid args below meth c H locs ls hC hR hS hL (hW.push trivial))
theorem Vw.lload {i : Nat} {x : Int64} (h : At y pc (.lload i) 2 pc') (hi : L[i]? = some (some (wl x))) (kk : Vw G y R Qf pc' L (wl x :: st) sz m k n) : Vw G y R Qf pc L st sz m k n := by
  obtain ⟨hd, rfl⟩ := h
  intro p e s mid args below meth c H locs ls hC hR hS hL hW
  exact lv_lload hC.1 hC.2.1 hd (hL.at hi) (kk p e s mid args below meth c H locs ls hC hR hS hL (hW.push trivial))
theorem Vw.aload_n {i : Fin 4} {a : Nat} (h : At y pc (.aload_n i) 1 pc') (hi : L[(i : Nat)]? = some (some (wr (some a)))) (kk : Vw G y R Qf pc' L (wr (some a) :: st) sz m k n) : Vw G y R Qf pc L st sz m k n := by
  obtain ⟨hd, rfl⟩ := h
  intro p e s mid args below meth c H locs ls hC hR hS hL hW
  exact lv_aload_n hC.1 hC.2.1 hd rfl (hL.at hi) (kk p e s mid args below meth c H locs ls hC hR hS hL (hW.push trivial))
theorem Vw.aload {i : Nat} {a : Nat} (h : At y pc (.aload i) 2 pc') (hi : L[i]? = some (some (wr (some a)))) (kk : Vw G y R Qf pc' L (wr (some a) :: st) sz m k n) : Vw G y R Qf pc L st sz m k n := by
  obtain ⟨hd, rfl⟩ := h
  intro p e s mid args below meth c H locs ls hC hR hS hL hW
  exact lv_aload hC.1 hC.2.1 hd (hL.at hi) (kk p e s mid args below meth c H locs ls hC hR hS hL (hW.push trivial))
theorem Vw.istore_n {i : Fin 4} {z : Int} (h : At y pc (.istore_n i) 1 pc') (hi : (i : Nat) < L.length) (hf : freeAt L (i : Nat) = true) (kk : Vw G y R Qf pc' (L.set (i : Nat) (some (wi z))) st sz m k n) : Vw G y R Qf pc L (wi z :: st) sz m k n := by
  obtain ⟨hd, rfl⟩ := h
  intro p e s mid args below meth c H locs ls hC hR hS hL hW
  exact lv_istore_n hC.1 hC.2.1 hd rfl hL.2 (by rw [← hL.1]; exact hi) rfl (fun ls' hl' => kk p e s mid args below meth c H locs ls' hC hR hS (hL.set (v := wi z) hf hl') (hW.tl.set hW.hd))
theorem Vw.istore {i : Nat} {z : Int} (h : At y pc (.istore i) 2 pc') (hi : i < L.length) (hf : freeAt L i = true) (kk : Vw G y R Qf pc' (L.set i (some (wi z))) st sz m k n) : Vw G y R Qf pc L (wi z :: st) sz m k n := by
  obtain ⟨hd, rfl⟩ := h
  intro p e s mid args below meth c H locs ls hC hR hS hL hW
  exact lv_istore hC.1 hC.2.1 hd hL.2 (by rw [← hL.1]; exact hi) rfl (fun ls' hl' => kk p e s mid args below meth c H locs ls' hC hR hS (hL.set (v := wi z) hf hl') (hW.tl.set hW.hd))
theorem Vw.astore_n {i : Fin 4} {a : Nat} (h : At y pc (.astore_n i) 1 pc') (hi : (i : Nat) < L.length) (hf : freeAt L (i : Nat) = true) (kk : Vw G y R Qf pc' (L.set (i : Nat) (some (wr (some a)))) st sz m k n) : Vw G y R Qf pc L (wr (some a) :: st) sz m k n := by
  obtain ⟨hd, rfl⟩ := h
  intro p e s mid args below meth c H locs ls hC hR hS hL hW
  exact lv_astore_n hC.1 hC.2.1 hd rfl hL.2 (by rw [← hL.1]; exact hi) rfl (fun ls' hl' => kk p e s mid args below meth c H locs ls' hC hR hS (hL.set (v := wr (some a)) hf hl') (hW.tl.set hW.hd))
theorem Vw.astore {i : Nat} {a : Nat} (h : At y pc (.astore i) 2 pc') (hi : i < L.length) (hf : freeAt L i = true) (kk : Vw G y R Qf pc' (L.set i (some (wr (some a)))) st sz m k n) : Vw G y R Qf pc L (wr (some a) :: st) sz m k n := by
  obtain ⟨hd, rfl⟩ := h
  intro p e s mid args below meth c H locs ls hC hR hS hL hW
  exact lv_astore hC.1 hC.2.1 hd hL.2 (by rw [← hL.1]; exact hi) rfl (fun ls' hl' => kk p e s mid args below meth c H locs ls' hC hR hS (hL.set (v := wr (some a)) hf hl') (hW.tl.set hW.hd))
theorem Vw.lstore_n {i : Fin 4} {x : Int64} (h : At y pc (.lstore_n i) 1 pc') (hi : (i : Nat) + 1 < L.length) (hf : freeAt L (i : Nat) = true) (kk : Vw G y R Qf pc' ((L.set (i : Nat) (some (wl x))).set ((i : Nat) + 1) none) st sz m k n) : Vw G y R Qf pc L (wl x :: st) sz m k n := by
  obtain ⟨hd, rfl⟩ := h
  intro p e s mid args below meth c H locs ls hC hR hS hL hW
  exact lv_lstore_n hC.1 hC.2.1 hd rfl hL.2 (by rw [← hL.1]; exact hi) rfl (fun ls' hl' => kk p e s mid args below meth c H locs ls' hC hR hS (hL.setL hf hl') (WSw.setN (hW.tl.set trivial)))
theorem Vw.lstore {i : Nat} {x : Int64} (h : At y pc (.lstore i) 2 pc') (hi : i + 1 < L.length) (hf : freeAt L i = true) (kk : Vw G y R Qf pc' ((L.set i (some (wl x))).set (i + 1) none) st sz m k n) : Vw G y R Qf pc L (wl x :: st) sz m k n := by
  obtain ⟨hd, rfl⟩ := h
  intro p e s mid args below meth c H locs ls hC hR hS hL hW
  exact lv_lstore hC.1 hC.2.1 hd hL.2 (by rw [← hL.1]; exact hi) rfl (fun ls' hl' => kk p e s mid args below meth c H locs ls' hC hR hS (hL.setL hf hl') (WSw.setN (hW.tl.set trivial)))
theorem Vw.iinc {i : Nat} {d z : Int} (h : At y pc (.iinc i d) 3 pc') (hi : L[i]? = some (some (wi z))) (hz : inR (z + d)) (hf : freeAt L i = true) (kk : Vw G y R Qf pc' (L.set i (some (wi (z + d)))) st sz m k n) : Vw G y R Qf pc L st sz m k n := by
  obtain ⟨hd, rfl⟩ := h
  intro p e s mid args below meth c H locs ls hC hR hS hL hW
  obtain ⟨k0, hk0⟩ := List.getElem?_of_mem ((mem_lvw L 0).mpr ⟨i, _, hi, rfl⟩)
  rw [Nat.zero_add] at hk0
  have hlt : i < L.length := (List.getElem?_eq_some_iff.mp hi).1
  refine lv_iinc hC.1 hC.2.1 hd hL.2 hk0 (v := Int32.ofInt (z + d)) (Int32.ofInt_add z d).symm (by rw [← hL.1]; exact hlt) rfl (fun ls' hl' => ?_)
  exact kk p e s mid args below meth c H locs ls' hC hR hS (hL.set (v := wi (z + d)) hf hl') (hW.set hz)
theorem Vw.iadd {a b : Int} (h : At y pc .iadd 1 pc') (hz : inR (a + b)) (kk : Vw G y R Qf pc' L (wi (a + b) :: st) sz m k n) : Vw G y R Qf pc L (wi b :: wi a :: st) sz m k n := by
  obtain ⟨hd, rfl⟩ := h
  intro p e s mid args below meth c H locs ls hC hR hS hL hW
  refine lv_iadd hC.1 hC.2.1 hd ?_
  rw [← Int32.ofInt_add]
  exact kk p e s mid args below meth c H locs ls hC hR hS hL (hW.tl.tl.push (v := wi (a + b)) hz)
theorem Vw.isub {a b : Int} (h : At y pc .isub 1 pc') (hz : inR (a - b)) (kk : Vw G y R Qf pc' L (wi (a - b) :: st) sz m k n) : Vw G y R Qf pc L (wi b :: wi a :: st) sz m k n := by
  obtain ⟨hd, rfl⟩ := h
  intro p e s mid args below meth c H locs ls hC hR hS hL hW
  refine lv_isub hC.1 hC.2.1 hd ?_
  rw [← Int32.ofInt_sub]
  exact kk p e s mid args below meth c H locs ls hC hR hS hL (hW.tl.tl.push (v := wi (a - b)) hz)
theorem Vw.imul {a b : Int} (h : At y pc .imul 1 pc') (hz : inR (a * b)) (kk : Vw G y R Qf pc' L (wi (a * b) :: st) sz m k n) : Vw G y R Qf pc L (wi b :: wi a :: st) sz m k n := by
  obtain ⟨hd, rfl⟩ := h
  intro p e s mid args below meth c H locs ls hC hR hS hL hW
  refine lv_imul hC.1 hC.2.1 hd ?_
  rw [← Int32.ofInt_mul]
  exact kk p e s mid args below meth c H locs ls hC hR hS hL (hW.tl.tl.push (v := wi (a * b)) hz)
theorem Vw.irem {a b : Int} (h : At y pc .irem 1 pc') (ha : 0 ≤ a) (hb : 0 < b) (kk : Vw G y R Qf pc' L (wi (a % b) :: st) sz m k n) : Vw G y R Qf pc L (wi b :: wi a :: st) sz m k n := by
  obtain ⟨hd, rfl⟩ := h
  intro p e s mid args below meth c H locs ls hC hR hS hL hW
  have wb : inR b := hW.hd
  have wa : inR a := hW.tl.hd
  have h1 := Int.emod_nonneg a (show b ≠ 0 by omega)
  have h2 := Int.emod_lt_of_pos a hb
  have h3 := Int.mul_ediv_add_emod a b
  have hq0 : 0 ≤ a / b := Int.ediv_nonneg ha (by omega)
  have hq1 : a / b ≤ a := Int.ediv_le_self b ha
  have e1 : Int32.ofInt a / Int32.ofInt b = Int32.ofInt (a / b) := by
    apply Int32.toInt_inj.mp
    rw [Int32.toInt_div_of_ne_right _ _ (fun q => by have q2 := (oI_eq wb (show inR (-1) by decide)).mp q; omega), inR_toInt wa, inR_toInt wb, inR_toInt ⟨by omega, by omega⟩, Int.tdiv_eq_ediv_of_nonneg ha]
  refine lv_irem hC.1 hC.2.1 hd (fun q => ?_) ?_
  · have q2 := (oI_eq wb (show inR 0 by decide)).mp q
    omega
  · have e2 : Int32.ofInt a - Int32.ofInt a / Int32.ofInt b * Int32.ofInt b = Int32.ofInt (a % b) := by
      rw [e1, ← Int32.ofInt_mul, ← Int32.ofInt_sub]
      congr 1
      have : a / b * b = b * (a / b) := Int.mul_comm _ _
      omega
    rw [e2]
    exact kk p e s mid args below meth c H locs ls hC hR hS hL (hW.tl.tl.push (v := wi (a % b)) ⟨by omega, by omega⟩)
theorem Vw.idiv {a b : Int} (h : At y pc .idiv 1 pc') (ha : 0 ≤ a) (hb : 0 < b) (kk : Vw G y R Qf pc' L (wi (a / b) :: st) sz m k n) : Vw G y R Qf pc L (wi b :: wi a :: st) sz m k n := by
  obtain ⟨hd, rfl⟩ := h
  intro p e s mid args below meth c H locs ls hC hR hS hL hW
  have wb : inR b := hW.hd
  have wa : inR a := hW.tl.hd
  have h1 := Int.emod_nonneg a (show b ≠ 0 by omega)
  have h2 := Int.emod_lt_of_pos a hb
  have h3 := Int.mul_ediv_add_emod a b
  have hq0 : 0 ≤ a / b := Int.ediv_nonneg ha (by omega)
  have hq1 : a / b ≤ a := Int.ediv_le_self b ha
  have e1 : Int32.ofInt a / Int32.ofInt b = Int32.ofInt (a / b) := by
    apply Int32.toInt_inj.mp
    rw [Int32.toInt_div_of_ne_right _ _ (fun q => by have q2 := (oI_eq wb (show inR (-1) by decide)).mp q; omega), inR_toInt wa, inR_toInt wb, inR_toInt ⟨by omega, by omega⟩, Int.tdiv_eq_ediv_of_nonneg ha]
  refine lv_idiv hC.1 hC.2.1 hd (fun q => ?_) ?_
  · have q2 := (oI_eq wb (show inR 0 by decide)).mp q
    omega
  · rw [e1]
    exact kk p e s mid args below meth c H locs ls hC hR hS hL (hW.tl.tl.push (v := wi (a / b)) ⟨by omega, by omega⟩)
theorem i32_any (x : Int32) : ∃ z : Int, inR z ∧ Int32.ofInt z = x := ⟨x.toInt, ⟨Int32.le_toInt _, Int32.toInt_lt _⟩, Int32.ofInt_toInt x⟩
theorem Vw.ixor {a b : Int} (h : At y pc .ixor 1 pc') (kk : ∀ z : Int, inR z → Vw G y R Qf pc' L (wi z :: st) sz m k n) : Vw G y R Qf pc L (wi b :: wi a :: st) sz m k n := by
  obtain ⟨hd, rfl⟩ := h
  intro p e s mid args below meth c H locs ls hC hR hS hL hW
  obtain ⟨z, hz, ez⟩ := i32_any (Int32.ofInt a ^^^ Int32.ofInt b)
  refine lv_ixor hC.1 hC.2.1 hd ?_
  rw [← ez]
  exact kk z hz p e s mid args below meth c H locs ls hC hR hS hL (hW.tl.tl.push (v := wi z) hz)
theorem Vw.ishr {a b : Int} (h : At y pc .ishr 1 pc') (kk : ∀ z : Int, inR z → Vw G y R Qf pc' L (wi z :: st) sz m k n) : Vw G y R Qf pc L (wi b :: wi a :: st) sz m k n := by
  obtain ⟨hd, rfl⟩ := h
  intro p e s mid args below meth c H locs ls hC hR hS hL hW
  obtain ⟨z, hz, ez⟩ := i32_any (Int32.ofInt a >>> (Int32.ofInt b &&& 31))
  refine lv_ishr hC.1 hC.2.1 hd ?_
  rw [← ez]
  exact kk z hz p e s mid args below meth c H locs ls hC hR hS hL (hW.tl.tl.push (v := wi z) hz)
-- the lower 31 bits
theorem Vw.iandP {a : Int} (h : At y pc .iand 1 pc') (kk : Vw G y R Qf pc' L (wi (a % 2147483648) :: st) sz m k n) : Vw G y R Qf pc L (wi 2147483647 :: wi a :: st) sz m k n := by
  obtain ⟨hd, rfl⟩ := h
  intro p e s mid args below meth c H locs ls hC hR hS hL hW
  have wa : inR a := hW.tl.hd
  refine lv_iand hC.1 hC.2.1 hd ?_
  have e1 : Int32.ofInt a &&& Int32.ofInt 2147483647 = Int32.ofInt (a % 2147483648) := by
    rw [pk_and (Int32.ofInt a) (m := Int32.ofInt 2147483647) 31 (by decide)]
    show Int32.ofNat _ = _
    rw [← Int32.ofInt_eq_ofNat]
    have h1 : (Int32.ofInt a).toBitVec.toNat = (a % 4294967296).toNat := by
      show (BitVec.ofInt 32 a).toNat = _
      rw [BitVec.toNat_ofInt]
      rfl
    rw [h1]
    congr 1
    omega
  rw [e1]
  exact kk p e s mid args below meth c H locs ls hC hR hS hL (hW.tl.tl.push (v := wi (a % 2147483648)) ⟨by omega, by omega⟩)
theorem Vw.i2c {a : Int} (h : At y pc .i2c 1 pc') (kk : Vw G y R Qf pc' L (wi (a % 65536) :: st) sz m k n) : Vw G y R Qf pc L (wi a :: st) sz m k n := by
  obtain ⟨hd, rfl⟩ := h
  intro p e s mid args below meth c H locs ls hC hR hS hL hW
  have wa : inR a := hW.hd
  have e1 : ((Int32.ofInt a).toUInt32 % 65536).toInt32 = Int32.ofInt (a % 65536) := by
    rw [pk_char]
    show Int32.ofNat _ = _
    rw [← Int32.ofInt_eq_ofNat]
    have h1 : (Int32.ofInt a).toBitVec.toNat = (a % 4294967296).toNat := by
      show (BitVec.ofInt 32 a).toNat = _
      rw [BitVec.toNat_ofInt]
      rfl
    rw [h1]
    congr 1
    omega
  exact lv_i2c hC.1 hC.2.1 hd e1 (kk p e s mid args below meth c H locs ls hC hR hS hL (hW.tl.push (v := wi (a % 65536)) ⟨by omega, by omega⟩))
theorem Vw.i2l {a : Int} (h : At y pc .i2l 1 pc') (kk : Vw G y R Qf pc' L (wl (Int32.ofInt a).toInt64 :: st) sz m k n) : Vw G y R Qf pc L (wi a :: st) sz m k n := by
  obtain ⟨hd, rfl⟩ := h
  intro p e s mid args below meth c H locs ls hC hR hS hL hW
  exact lv_i2l hC.1 hC.2.1 hd rfl (kk p e s mid args below meth c H locs ls hC hR hS hL (hW.tl.push (v := wl _) trivial))
theorem Vw.l2i {x : Int64} (h : At y pc .l2i 1 pc') (kk : Vw G y R Qf pc' L (wi x.toInt32.toInt :: st) sz m k n) : Vw G y R Qf pc L (wl x :: st) sz m k n := by
  obtain ⟨hd, rfl⟩ := h
  intro p e s mid args below meth c H locs ls hC hR hS hL hW
  exact lv_l2i hC.1 hC.2.1 hd (Int32.ofInt_toInt _).symm (kk p e s mid args below meth c H locs ls hC hR hS hL (hW.tl.push (v := wi x.toInt32.toInt) ⟨Int32.le_toInt _, Int32.toInt_lt _⟩))
theorem Vw.ladd {a b : Int64} (h : At y pc .ladd 1 pc') (kk : Vw G y R Qf pc' L (wl (a + b) :: st) sz m k n) : Vw G y R Qf pc L (wl b :: wl a :: st) sz m k n := by
  obtain ⟨hd, rfl⟩ := h
  intro p e s mid args below meth c H locs ls hC hR hS hL hW
  exact lv_ladd hC.1 hC.2.1 hd (kk p e s mid args below meth c H locs ls hC hR hS hL (hW.tl.tl.push (v := wl _) trivial))
theorem Vw.lmul {a b : Int64} (h : At y pc .lmul 1 pc') (kk : Vw G y R Qf pc' L (wl (a * b) :: st) sz m k n) : Vw G y R Qf pc L (wl b :: wl a :: st) sz m k n := by
  obtain ⟨hd, rfl⟩ := h
  intro p e s mid args below meth c H locs ls hC hR hS hL hW
  exact lv_lmul hC.1 hC.2.1 hd (kk p e s mid args below meth c H locs ls hC hR hS hL (hW.tl.tl.push (v := wl _) trivial))
theorem Vw.land {a b : Int64} (h : At y pc .land 1 pc') (kk : Vw G y R Qf pc' L (wl (a &&& b) :: st) sz m k n) : Vw G y R Qf pc L (wl b :: wl a :: st) sz m k n := by
  obtain ⟨hd, rfl⟩ := h
  intro p e s mid args below meth c H locs ls hC hR hS hL hW
  exact lv_land hC.1 hC.2.1 hd (kk p e s mid args below meth c H locs ls hC hR hS hL (hW.tl.tl.push (v := wl _) trivial))
theorem Vw.lshr {x : Int64} {a : Int} (h : At y pc .lshr 1 pc') (kk : Vw G y R Qf pc' L (wl (x >>> ((Int32.ofInt a).toInt64 &&& 63)) :: st) sz m k n) : Vw G y R Qf pc L (wi a :: wl x :: st) sz m k n := by
  obtain ⟨hd, rfl⟩ := h
  intro p e s mid args below meth c H locs ls hC hR hS hL hW
  exact lv_lshr hC.1 hC.2.1 hd rfl (kk p e s mid args below meth c H locs ls hC hR hS hL (hW.tl.tl.push (v := wl _) trivial))
def lcmpZ (a b : Int64) : Int := if b < a then 1 else if a = b then 0 else -1
theorem lcmpZ_0 {a b : Int64} : lcmpZ a b = 0 ↔ a = b := by
  unfold lcmpZ
  by_cases h : b < a
  · rw [if_pos h]
    exact ⟨fun q => absurd q (by decide), fun q => by subst q; exact absurd h (Int64.lt_irrefl)⟩
  · rw [if_neg h]
    by_cases h2 : a = b
    · rw [if_pos h2]; exact ⟨fun _ => h2, fun _ => rfl⟩
    · rw [if_neg h2]; exact ⟨fun q => absurd q (by decide), fun q => absurd q h2⟩
theorem Vw.lcmp {a b : Int64} (h : At y pc .lcmp 1 pc') (kk : Vw G y R Qf pc' L (wi (lcmpZ a b) :: st) sz m k n) : Vw G y R Qf pc L (wl b :: wl a :: st) sz m k n := by
  obtain ⟨hd, rfl⟩ := h
  intro p e s mid args below meth c H locs ls hC hR hS hL hW
  refine W.lcmp hC.1 hC.2.1 hd ?_
  have e1 : lg_cmp a b = Int32.ofInt (lcmpZ a b) := by
    unfold lg_cmp lcmpZ
    by_cases h1 : b < a
    · rw [if_pos h1, if_pos h1]; rfl
    · rw [if_neg h1, if_neg h1]
      by_cases h2 : a = b
      · rw [if_pos h2, if_pos h2]; rfl
      · rw [if_neg h2, if_neg h2]; rfl
  rw [e1]
  exact kk p e s mid args below meth c H locs ls hC hR hS hL (hW.tl.tl.push (v := wi (lcmpZ a b)) (by show inR _; unfold lcmpZ; split <;> first | decide | (split <;> decide)))
theorem Vw.dup {v : AV} (h : At y pc (.dup) 1 pc') (kk : Vw G y R Qf pc' L (.inl v :: .inl v :: st) sz m k n) : Vw G y R Qf pc L (.inl v :: st) sz m k n := by
  obtain ⟨hd, rfl⟩ := h
  intro p e s mid args below meth c H locs ls hC hR hS hL hW
  exact lv_dup hC.1 hC.2.1 hd (toV_cat v) (kk p e s mid args below meth c H locs ls hC hR hS hL (hW.push hW.hd))
theorem Vw.pop {v : AV} (h : At y pc (.pop) 1 pc') (kk : Vw G y R Qf pc' L st sz m k n) : Vw G y R Qf pc L (.inl v :: st) sz m k n := by
  obtain ⟨hd, rfl⟩ := h
  intro p e s mid args below meth c H locs ls hC hR hS hL hW
  exact lv_pop hC.1 hC.2.1 hd (toV_cat v) (kk p e s mid args below meth c H locs ls hC hR hS hL hW.tl)
theorem Vw.if_eq {z off : Int} {tgt : Nat} (h : At y pc (.ifCond .eq off) 3 pc') (ht : (pc : Int) + off = (tgt : Int)) (kt : z = 0 → Vw G y R Qf tgt L st sz m k n) (kf : z ≠ 0 → Vw G y R Qf pc' L st sz m k n) : Vw G y R Qf pc L (wi z :: st) sz m k n := by
  obtain ⟨hd, rfl⟩ := h
  intro p e s mid args below meth c H locs ls hC hR hS hL hW
  have wz : inR z := hW.hd
  have w0 : inR 0 := by decide
  exact lv_if_eq hC.1 hC.2.1 hd ht (fun q => kt ((oI_eq wz w0).mp q) p e s mid args below meth c H locs ls hC hR hS hL hW.tl) (fun q => kf (fun e => q ((oI_eq wz w0).mpr e)) p e s mid args below meth c H locs ls hC hR hS hL hW.tl)
theorem Vw.if_ne {z off : Int} {tgt : Nat} (h : At y pc (.ifCond .ne off) 3 pc') (ht : (pc : Int) + off = (tgt : Int)) (kt : z ≠ 0 → Vw G y R Qf tgt L st sz m k n) (kf : z = 0 → Vw G y R Qf pc' L st sz m k n) : Vw G y R Qf pc L (wi z :: st) sz m k n := by
  obtain ⟨hd, rfl⟩ := h
  intro p e s mid args below meth c H locs ls hC hR hS hL hW
  have wz : inR z := hW.hd
  have w0 : inR 0 := by decide
  exact lv_if_ne hC.1 hC.2.1 hd ht (fun q => kt (fun e => q ((oI_eq wz w0).mpr e)) p e s mid args below meth c H locs ls hC hR hS hL hW.tl) (fun q => kf ((oI_eq wz w0).mp q) p e s mid args below meth c H locs ls hC hR hS hL hW.tl)
theorem Vw.if_lt {z off : Int} {tgt : Nat} (h : At y pc (.ifCond .lt off) 3 pc') (ht : (pc : Int) + off = (tgt : Int)) (kt : z < 0 → Vw G y R Qf tgt L st sz m k n) (kf : 0 ≤ z → Vw G y R Qf pc' L st sz m k n) : Vw G y R Qf pc L (wi z :: st) sz m k n := by
  obtain ⟨hd, rfl⟩ := h
  intro p e s mid args below meth c H locs ls hC hR hS hL hW
  have wz : inR z := hW.hd
  have w0 : inR 0 := by decide
  exact lv_if_lt hC.1 hC.2.1 hd ht (fun q => kt ((oI_lt wz w0).mp q) p e s mid args below meth c H locs ls hC hR hS hL hW.tl) (fun q => kf (Int.not_lt.mp (fun e => q ((oI_lt wz w0).mpr e))) p e s mid args below meth c H locs ls hC hR hS hL hW.tl)
theorem Vw.if_ge {z off : Int} {tgt : Nat} (h : At y pc (.ifCond .ge off) 3 pc') (ht : (pc : Int) + off = (tgt : Int)) (kt : 0 ≤ z → Vw G y R Qf tgt L st sz m k n) (kf : z < 0 → Vw G y R Qf pc' L st sz m k n) : Vw G y R Qf pc L (wi z :: st) sz m k n := by
  obtain ⟨hd, rfl⟩ := h
  intro p e s mid args below meth c H locs ls hC hR hS hL hW
  have wz : inR z := hW.hd
  have w0 : inR 0 := by decide
  exact lv_if_ge hC.1 hC.2.1 hd ht (fun q => kt ((oI_le w0 wz).mp q) p e s mid args below meth c H locs ls hC hR hS hL hW.tl) (fun q => kf (Int.not_le.mp (fun e => q ((oI_le w0 wz).mpr e))) p e s mid args below meth c H locs ls hC hR hS hL hW.tl)
theorem Vw.if_gt {z off : Int} {tgt : Nat} (h : At y pc (.ifCond .gt off) 3 pc') (ht : (pc : Int) + off = (tgt : Int)) (kt : 0 < z → Vw G y R Qf tgt L st sz m k n) (kf : z ≤ 0 → Vw G y R Qf pc' L st sz m k n) : Vw G y R Qf pc L (wi z :: st) sz m k n := by
  obtain ⟨hd, rfl⟩ := h
  intro p e s mid args below meth c H locs ls hC hR hS hL hW
  have wz : inR z := hW.hd
  have w0 : inR 0 := by decide
  exact lv_if_gt hC.1 hC.2.1 hd ht (fun q => kt ((oI_lt w0 wz).mp q) p e s mid args below meth c H locs ls hC hR hS hL hW.tl) (fun q => kf (Int.not_lt.mp (fun e => q ((oI_lt w0 wz).mpr e))) p e s mid args below meth c H locs ls hC hR hS hL hW.tl)
theorem Vw.if_le {z off : Int} {tgt : Nat} (h : At y pc (.ifCond .le off) 3 pc') (ht : (pc : Int) + off = (tgt : Int)) (kt : z ≤ 0 → Vw G y R Qf tgt L st sz m k n) (kf : 0 < z → Vw G y R Qf pc' L st sz m k n) : Vw G y R Qf pc L (wi z :: st) sz m k n := by
  obtain ⟨hd, rfl⟩ := h
  intro p e s mid args below meth c H locs ls hC hR hS hL hW
  have wz : inR z := hW.hd
  have w0 : inR 0 := by decide
  exact lv_if_le hC.1 hC.2.1 hd ht (fun q => kt ((oI_le wz w0).mp q) p e s mid args below meth c H locs ls hC hR hS hL hW.tl) (fun q => kf (Int.not_le.mp (fun e => q ((oI_le wz w0).mpr e))) p e s mid args below meth c H locs ls hC hR hS hL hW.tl)
theorem Vw.icmp_eq {a b off : Int} {tgt : Nat} (h : At y pc (.if_icmp .eq off) 3 pc') (ht : (pc : Int) + off = (tgt : Int)) (kt : a = b → Vw G y R Qf tgt L st sz m k n) (kf : a ≠ b → Vw G y R Qf pc' L st sz m k n) : Vw G y R Qf pc L (wi b :: wi a :: st) sz m k n := by
  obtain ⟨hd, rfl⟩ := h
  intro p e s mid args below meth c H locs ls hC hR hS hL hW
  have wb : inR b := hW.hd
  have wa : inR a := hW.tl.hd
  exact lv_icmp_eq hC.1 hC.2.1 hd ht (fun q => kt ((oI_eq wa wb).mp q) p e s mid args below meth c H locs ls hC hR hS hL hW.tl.tl) (fun q => kf (fun e => q ((oI_eq wa wb).mpr e)) p e s mid args below meth c H locs ls hC hR hS hL hW.tl.tl)
theorem Vw.icmp_ne {a b off : Int} {tgt : Nat} (h : At y pc (.if_icmp .ne off) 3 pc') (ht : (pc : Int) + off = (tgt : Int)) (kt : a ≠ b → Vw G y R Qf tgt L st sz m k n) (kf : a = b → Vw G y R Qf pc' L st sz m k n) : Vw G y R Qf pc L (wi b :: wi a :: st) sz m k n := by
  obtain ⟨hd, rfl⟩ := h
  intro p e s mid args below meth c H locs ls hC hR hS hL hW
  have wb : inR b := hW.hd
  have wa : inR a := hW.tl.hd
  exact lv_icmp_ne hC.1 hC.2.1 hd ht (fun q => kt (fun e => q ((oI_eq wa wb).mpr e)) p e s mid args below meth c H locs ls hC hR hS hL hW.tl.tl) (fun q => kf ((oI_eq wa wb).mp q) p e s mid args below meth c H locs ls hC hR hS hL hW.tl.tl)
theorem Vw.icmp_lt {a b off : Int} {tgt : Nat} (h : At y pc (.if_icmp .lt off) 3 pc') (ht : (pc : Int) + off = (tgt : Int)) (kt : a < b → Vw G y R Qf tgt L st sz m k n) (kf : b ≤ a → Vw G y R Qf pc' L st sz m k n) : Vw G y R Qf pc L (wi b :: wi a :: st) sz m k n := by
  obtain ⟨hd, rfl⟩ := h
  intro p e s mid args below meth c H locs ls hC hR hS hL hW
  have wb : inR b := hW.hd
  have wa : inR a := hW.tl.hd
  exact lv_icmp_lt hC.1 hC.2.1 hd ht (fun q => kt ((oI_lt wa wb).mp q) p e s mid args below meth c H locs ls hC hR hS hL hW.tl.tl) (fun q => kf (Int.not_lt.mp (fun e => q ((oI_lt wa wb).mpr e))) p e s mid args below meth c H locs ls hC hR hS hL hW.tl.tl)
theorem Vw.icmp_ge {a b off : Int} {tgt : Nat} (h : At y pc (.if_icmp .ge off) 3 pc') (ht : (pc : Int) + off = (tgt : Int)) (kt : b ≤ a → Vw G y R Qf tgt L st sz m k n) (kf : a < b → Vw G y R Qf pc' L st sz m k n) : Vw G y R Qf pc L (wi b :: wi a :: st) sz m k n := by
  obtain ⟨hd, rfl⟩ := h
  intro p e s mid args below meth c H locs ls hC hR hS hL hW
  have wb : inR b := hW.hd
  have wa : inR a := hW.tl.hd
  exact lv_icmp_ge hC.1 hC.2.1 hd ht (fun q => kt ((oI_le wb wa).mp q) p e s mid args below meth c H locs ls hC hR hS hL hW.tl.tl) (fun q => kf (Int.not_le.mp (fun e => q ((oI_le wb wa).mpr e))) p e s mid args below meth c H locs ls hC hR hS hL hW.tl.tl)
theorem Vw.icmp_gt {a b off : Int} {tgt : Nat} (h : At y pc (.if_icmp .gt off) 3 pc') (ht : (pc : Int) + off = (tgt : Int)) (kt : b < a → Vw G y R Qf tgt L st sz m k n) (kf : a ≤ b → Vw G y R Qf pc' L st sz m k n) : Vw G y R Qf pc L (wi b :: wi a :: st) sz m k n := by
  obtain ⟨hd, rfl⟩ := h
  intro p e s mid args below meth c H locs ls hC hR hS hL hW
  have wb : inR b := hW.hd
  have wa : inR a := hW.tl.hd
  exact lv_icmp_gt hC.1 hC.2.1 hd ht (fun q => kt ((oI_lt wb wa).mp q) p e s mid args below meth c H locs ls hC hR hS hL hW.tl.tl) (fun q => kf (Int.not_lt.mp (fun e => q ((oI_lt wb wa).mpr e))) p e s mid args below meth c H locs ls hC hR hS hL hW.tl.tl)
theorem Vw.icmp_le {a b off : Int} {tgt : Nat} (h : At y pc (.if_icmp .le off) 3 pc') (ht : (pc : Int) + off = (tgt : Int)) (kt : a ≤ b → Vw G y R Qf tgt L st sz m k n) (kf : b < a → Vw G y R Qf pc' L st sz m k n) : Vw G y R Qf pc L (wi b :: wi a :: st) sz m k n := by
  obtain ⟨hd, rfl⟩ := h
  intro p e s mid args below meth c H locs ls hC hR hS hL hW
  have wb : inR b := hW.hd
  have wa : inR a := hW.tl.hd
  exact lv_icmp_le hC.1 hC.2.1 hd ht (fun q => kt ((oI_le wa wb).mp q) p e s mid args below meth c H locs ls hC hR hS hL hW.tl.tl) (fun q => kf (Int.not_le.mp (fun e => q ((oI_le wa wb).mpr e))) p e s mid args below meth c H locs ls hC hR hS hL hW.tl.tl)
theorem Vw.goto {off : Int} {tgt : Nat} (h : At y pc (.goto off) 3 pc') (ht : (pc : Int) + off = (tgt : Int)) (kk : Vw G y R Qf tgt L st sz m k n) : Vw G y R Qf pc L st sz m k n := by
  obtain ⟨hd, rfl⟩ := h
  intro p e s mid args below meth c H locs ls hC hR hS hL hW
  exact lv_goto hC.1 hC.2.1 hd ht (kk p e s mid args below meth c H locs ls hC hR hS hL hW)
theorem Vw.mem {m2 : Mem} (hm : m2 = m) (kk : Vw G y R Qf pc L st sz m2 k n) : Vw G y R Qf pc L st sz m k n := hm ▸ kk
theorem Vw.knowS (kk : (∀ a : Nat, sz ≤ a → m a = unk) → G.2.2.1 ≤ sz → Vw G y R Qf pc L st sz m k n) : Vw G y R Qf pc L st sz m k n := by
  intro p e s mid args below meth c H locs ls hC hR hS hL hW
  refine kk (fun a ha => ?_) hR.2.1 p e s mid args below meth c H locs ls hC hR hS hL hW
  by_cases hu : m a = unk
  · exact hu
  · have h := (hR.2.2 a).lt hu
    rw [hR.1] at h
    omega
theorem Vw.knowB {a : Nat} (ha : m a ≠ unk) (kk : a < sz → Vw G y R Qf pc L st sz m k n) : Vw G y R Qf pc L st sz m k n := by
  intro p e s mid args below meth c H locs ls hC hR hS hL hW
  have h := (hR.2.2 a).lt ha
  rw [hR.1] at h
  exact kk h p e s mid args below meth c H locs ls hC hR hS hL hW
-- what is on top of the stack is an int
theorem Vw.knowT {z : Int} (kk : inR z → Vw G y R Qf pc L (wi z :: st) sz m k n) : Vw G y R Qf pc L (wi z :: st) sz m k n := by
  intro p e s mid args below meth c H locs ls hC hR hS hL hW
  exact kk hW.hd p e s mid args below meth c H locs ls hC hR hS hL hW
-- heap
theorem Vw.new {ci N idx : Nat} {fs : List AV} (h : At y pc (.new idx) 3 pc') (hn : NL y.1.cls idx ci N fs) (hr : k + 1 ≤ R.cells ∧ n + N ≤ R.slots) (kk : Vw G y R Qf pc' L (wr (some sz) :: st) (sz + 1) (upM m sz (obj ci fs)) (k + 1) (n + N)) : Vw G y R Qf pc L st sz m k n := by
  obtain ⟨hd, rfl⟩ := h
  obtain ⟨C, T, ty0, hc, hin, hty, hcl, hinst, hini, hdef, hwf⟩ := hn
  intro p e s mid args below meth c H locs ls hC hR hS hL hW
  have hx := hC
  obtain ⟨hexec, hb, hml, hrt, hlk, hown, hnm, hts, hB⟩ := hx
  have hKn := hB.1.1 ci _ hc
  refine W.newcK hexec hb hown (hts _ hcl) (hts _ hinst) (hts _ hini) rfl hd hr.1 hr.2 hKn.2.1 hR.1 fun H1 kC hkC e1 z1 o1 => ?_
  exact kk p e s mid args below meth c H1 locs ls hC (hR.push z1 o1 ⟨hR.2.1, hwf, ⟨_, hc, (u_born ty0 hts hin hKn hkC e1 hty).to hdef⟩⟩) (hS.grow hR.1 z1 o1) hL (hW.push trivial)
theorem Vw.newl {z : Int} (h : At y pc (.newarray .long) 2 pc') (hz : 0 ≤ z ∧ z < 100000) (hr : k + 1 ≤ R.cells ∧ n + z.toNat ≤ R.slots) (kk : Vw G y R Qf pc' L (wr (some sz) :: st) (sz + 1) (upM m sz (lar z.toNat (fun _ => 0))) (k + 1) (n + z.toNat)) : Vw G y R Qf pc L (wi z :: st) sz m k n := by
  obtain ⟨hd, rfl⟩ := h
  intro p e s mid args below meth c H locs ls hC hR hS hL hW
  have hx := hC
  obtain ⟨hexec, hb, hml, hrt, hlk, hown, hnm, hts, hB⟩ := hx
  refine va_newaK (atype := .long) hexec hb (hts _ gj_along) rfl hd rfl (n := Int32.ofInt z) (fun q => by have := (oI_lt (a := z) (b := 0) ⟨by omega, by omega⟩ (by decide)).mp q; omega) (oI_clamp hz.1 (by omega)) (by show z.toNat * 8 ≤ _; omega) hr.1 hr.2 hR.1 fun H1 cA e1 z1 o1 hA hN => ?_
  exact kk p e s mid args below meth c H1 locs ls hC (hR.push z1 o1 ⟨hR.2.1, cA, hA, hN, e1⟩) (hS.grow hR.1 z1 o1) hL (hW.tl.push trivial)
theorem Vw.lald {a nn : Nat} {f : Int → Int64} {i : Int} (h : At y pc .laload 1 pc') (hm : m a = lar nn f) (h0 : 0 ≤ i) (h1 : i < nn) (kk : Vw G y R Qf pc' L (wl (f i) :: st) sz m k n) : Vw G y R Qf pc L (wi i :: wr (some a) :: st) sz m k n := by
  obtain ⟨hd, rfl⟩ := h
  intro p e s mid args below meth c H locs ls hC hR hS hL hW
  have wi' : inR i := hW.hd
  have ha := hR.2.2 a
  rw [hm] at ha
  obtain ⟨g1, cA, g3, g4, g5⟩ := ha
  have hcl := oI_clamp h0 wi'.2
  exact W.lald (v := .long (f i)) hC.1 hC.2.1 g5 (g3 _ _) (fun q => by cases q) (by rw [arrV_size]; exact oI_in h0 h1 wi'.2) (by rw [hcl, arrV_read _ _ (by omega), show ((i.toNat : Nat) : Int) = i by omega]) rfl rfl hd
    (kk p e s mid args below meth c H locs ls hC hR hS hL (hW.tl.tl.push (v := wl (f i)) trivial))
theorem Vw.last {a nn : Nat} {f : Int → Int64} {i : Int} {x : Int64} (h : At y pc .lastore 1 pc') (hm : m a = lar nn f) (h0 : 0 ≤ i) (h1 : i < nn) (kk : Vw G y R Qf pc' L st sz (upM m a (lar nn (upI f i x))) k n) : Vw G y R Qf pc L (wl x :: wi i :: wr (some a) :: st) sz m k n := by
  obtain ⟨hd, rfl⟩ := h
  intro p e s mid args below meth c H locs ls hC hR hS hL hW
  have wi' : inR i := hW.tl.hd
  have ha := hR.2.2 a
  rw [hm] at ha
  obtain ⟨g1, cA, g3, g4, g5⟩ := ha
  have hcl := oI_clamp h0 wi'.2
  refine W.last hC.1 hC.2.1 g5 (g3 _ _) (fun q => by cases q) (by rw [arrV_size]; exact oI_in h0 h1 wi'.2) rfl rfl hd fun H' e1 e2 e3 => ?_
  rw [hcl, arrV_store] at e1
  have e4 : arrV cA nn (updV (fun j : Nat => .long (f (j : Int))) i.toNat (.long x)) = arrV cA nn (fun j : Nat => .long (upI f i x (j : Int))) := by
    congr 1
    funext j
    unfold updV upI
    by_cases hj : j = i.toNat
    · rw [if_pos hj, if_pos (by omega)]
    · rw [if_neg hj, if_neg (by omega)]
  rw [e4] at e1
  refine kk p e s mid args below meth c H' _ ls hC (hR.set e2 e3 ⟨g1, cA, g3, g4, e1⟩) (hS.put e2 e3 g1) hL hW.tl.tl.tl
theorem Vw.fald {a nn : Nat} {f : Int → Int} {i : Int} (h : At y pc .iaload 1 pc') (hm : m a = fiar nn f) (h0 : 0 ≤ i) (h1 : i < nn) (kk : inR (f i) → Vw G y R Qf pc' L (wi (f i) :: st) sz m k n) : Vw G y R Qf pc L (wi i :: wr (some a) :: st) sz m k n := by
  obtain ⟨hd, rfl⟩ := h
  intro p e s mid args below meth c H locs ls hC hR hS hL hW
  have wi' : inR i := hW.hd
  have ha := hR.2.2 a
  rw [hm] at ha
  have g2 := ha.2.1
  obtain ⟨cell, g3, g4, g5, g6, g7⟩ := hOK_frz ha
  have hcl := oI_clamp h0 wi'.2
  exact W.iald (v := .int (Int32.ofInt (f i))) hC.1 hC.2.1 g3 g4 g5 (by rw [g6]; exact oI_in h0 h1 wi'.2) (by rw [hcl, g7 _ (by omega), show ((i.toNat : Nat) : Int) = i by omega]) rfl rfl hd
    (kk (g2 i h0 h1).1 p e s mid args below meth c H locs ls hC hR hS hL (hW.tl.tl.push (v := wi (f i)) (g2 i h0 h1).1))
theorem Vw.alenT {a t nn : Nat} {f : Int → Int} (h : At y pc .arraylength 1 pc') (hm : m a = .inr (.inl (t, nn, f))) (hz : inR nn) (kk : Vw G y R Qf pc' L (wi nn :: st) sz m k n) : Vw G y R Qf pc L (wr (some a) :: st) sz m k n := by
  obtain ⟨hd, rfl⟩ := h
  intro p e s mid args below meth c H locs ls hC hR hS hL hW
  have ha := hR.2.2 a
  rw [hm] at ha
  obtain ⟨cell, g3, g4, g5, g6, g7⟩ := hOK_frz ha
  exact W.alen (n := Int32.ofInt nn) hC.1 hC.2.1 g3 g4 (by rw [g6, Int32.ofInt_eq_ofNat] <;> rfl) rfl rfl hd (kk p e s mid args below meth c H locs ls hC hR hS hL (hW.tl.push (v := wi nn) hz))
-- calls
theorem PcW.blind {G : GX} {args : List LW} {sz : Nat} {m : Mem} : FrameBlind (PcW G args sz m) := fun a U g mk q => ⟨q.1, q.2.1, q.2.2.1.same rfl rfl, q.2.2.2.moved (Vm.Alike.refl U.vm)⟩
theorem PcW.of {G : GX} {args2 : List LW} {s U : State} {H : Heap} {locs : List Loc} {sz : Nat} {m : Mem} (hwf : ∀ v ∈ args2, wfw v) (hB : base G s) (hR : Rel G s H sz m) (hS : va_S (Afr G) s.heap H locs) (hU : U.heap = H) (hW : s.WarmedH U.vm) : PcW G args2 sz m (args2.map toW).toArray U :=
  ⟨rfl, hwf, base.moved hW (by rw [hU]; exact hS) hB, by rw [hU]; exact hR.moved hW.alike⟩
theorem Vw.back {p : Program} {e : Env} {s : State} {mid : MethodId} {args : Array Value} {below : List Frame} {meth : Method} {c : Code} {H : Heap} {locs : List Loc} {ls : Array Slot} {st0 : List Value} {a2 : Array Value} {P : POw} {mc ms : Nat}
    (hC : CX G y p s mid args meth c) (hS : va_S (Afr G) s.heap H locs) (hL : LVw ls y.2.2.1 L) (hW : WSw L st)
    (hr : va_Run p G.1 e R s mid args below meth c H locs k n mc ms (F0 mid pc ls st0) (st.map toW) (QcW G P a2) (Afr G))
    (kk : ∀ (r : Option LW) (sz' : Nat) (m' : Mem), P r sz' m' → Vw G y R Qf (pc + 3) L (r.toList ++ st) sz' m' (k + mc) (n + ms)) : W p G.1 e R s mid args below meth c H locs k n (Qf s below args) (F0 mid pc ls st0) := by
  intro T hT X
  obtain ⟨v, st₀, t, T', Lc, h0, X', hLc, e1, e2, ⟨r, sz', m', hv, hp, hwr, hrel, hF⟩, hst⟩ := hr T hT X
  have hv2 : v = r.map toW := by simpa using hv
  subst hv2
  have hrel2 : Rel G s T'.heap sz' m' := by
    rw [e1]
    exact hrel.moved (by rw [← e2]; exact X'.warmed.alike.symm)
  have hS2 : va_S (Afr G) s.heap T'.heap (locs ++ Lc) := by
    rw [e1]
    have hz := hF.1
    have hk := hF.2
    rw [h0] at hz hk
    exact ⟨Nat.le_trans hS.1 hz, fun q h1 h2 => by rw [hk q (Nat.lt_of_lt_of_le h1 hS.1) h2]; exact hS.2.1 q h1 h2, fun q hq => by
      rcases List.mem_append.mp hq with h | h
      · exact hS.2.2 q h
      · exact hLc q h⟩
  have hW2 : WSw L (r.toList ++ st) := by
    refine ⟨hW.1, fun w hw => ?_⟩
    rcases List.mem_append.mp hw with h | h
    · cases r with
      | none => simp at h
      | some x =>
        simp at h
        rw [h]
        exact hwr x rfl
    · exact hW.2 w h
  obtain ⟨t2, a1, b1⟩ := kk r sz' m' hp p e s mid args below meth c T'.heap (locs ++ Lc) ls hC hrel2 hS2 hL hW2 T' rfl X'
  refine ⟨t2, hst t2 ?_, b1⟩
  have e3 : (r.map toW).toList ++ st.map toW = (r.toList ++ st).map toW := by cases r <;> rfl
  rw [e3]
  exact a1
theorem Vw.callV {y2 : MK} {d2 mc ms n2 ci idx a : Nat} {args2 : List LW} {fs : List AV} {S : List LW} {P : POw} (h : At y pc (.invokevirtual idx) 3 pc') (hl : Cond.methodLink y.1.cls idx y2.1 ∈ GW) (hc : callee y2 n2) (hc1 : Cond.instanceMethod y2.1 ∈ GW) (hc2 : Cond.selects y2.1.cls y2.1 y2.1 ∈ GW)
    (hn : args2.length = n2) (hcl : y2.1.cls = rcl ci) (ok : OkW G y2 d2 (wr (some a) :: args2) sz m mc ms P) (hm : m a = obj ci fs) (hst : S = args2.reverse ++ wr (some a) :: st) (h8 : cws st ≤ 8)
    (hr : (d2 + 1 ≤ R.frames ∧ 8 + (y2.2.2.1 + 11) + 40 * d2 ≤ R.locals) ∧ k + mc ≤ R.cells ∧ n + ms ≤ R.slots) (kk : ∀ (r : Option LW) (sz' : Nat) (m' : Mem), P r sz' m' → Vw G y R Qf pc' L (r.toList ++ st) sz' m' (k + mc) (n + ms)) : Vw G y R Qf pc L S sz m k n := by
  obtain ⟨hd, rfl⟩ := h
  subst hst
  obtain ⟨hcode, hini, hmh, hpar⟩ := hc
  intro p e s mid args below meth c H locs ls hC hR hS hL hW
  have hx := hC
  obtain ⟨hexec, hb, hml, hrt, hlk, hown, hnm, hts, hB⟩ := hx
  have hWs : WSw L st := ⟨hW.1, fun w hw => hW.2 w (List.mem_append_right _ (List.mem_cons_of_mem _ hw))⟩
  have hwf : ∀ v ∈ (wr (some a) :: args2 : List LW), wfw v := by
    refine wconsw trivial (fun v hv => hW.2 v (List.mem_append_left _ (List.mem_reverse.mpr hv)))
  have h0 := hR.2.2 a
  rw [hm] at h0
  obtain ⟨-, -, r0, hr0, cellV, q1, q2, q3, -⟩ := h0
  have hcls := (hB.1.1 ci r0 hr0).2
  have hrc : r0.1 = y2.1.cls := by rw [hcl]; unfold rcl; rw [hr0]
  have hB2 : CallB R s args y.1.cls idx y2.1 y2.2.1 y2.2.2.1 y2.2.2.2 (wsM y2) (rmM d2 mc ms) mc ms n2 := callB_of n2 hts (wsM_good hcode) rfl rfl rfl (hts _ hini) (hts _ hl) ⟨hmh.1, hmh.2, hpar⟩ hr.1
  refine Vw.back hC hS hL hWs (va_runV (C := y2.1.cls) (b := a) (As := args2.map toW) (rest := st.map toW) ⟨hexec, hb, hml, hown, hts⟩ ok ⟨hB2, hts _ hc1, hts _ hc2⟩ ⟨PcW.blind, ⟨cellV, q1, by rw [q3]; rfl, by rw [q2, ← hrc]; exact hcls.1⟩, fun U hU hWm => PcW.of (args2 := wr (some a) :: args2) hwf hB hR hS hU hWm⟩ rfl (by rw [List.length_map]; exact hn) hL.2.1 ?_ (lv_room (by rw [cws_sum]; exact h8)) hd hr.2) kk
  show List.map toW (args2.reverse ++ wr (some a) :: st) = _
  rw [List.map_append, List.map_reverse]
  rfl
theorem Vw.callS {y2 : MK} {d2 mc ms n2 idx : Nat} {args2 S : List LW} {P : POw} (h : At y pc (.invokestatic idx) 3 pc') (hl : Cond.methodLink y.1.cls idx y2.1 ∈ GW) (hc : callee y2 n2) (hc1 : Cond.static y2.1 ∈ GW)
    (hn : args2.length = n2) (ok : OkW G y2 d2 args2 sz m mc ms P) (hst : S = args2.reverse ++ st) (h8 : cws st ≤ 8)
    (hr : (d2 + 1 ≤ R.frames ∧ 8 + (y2.2.2.1 + 11) + 40 * d2 ≤ R.locals) ∧ k + mc ≤ R.cells ∧ n + ms ≤ R.slots) (kk : ∀ (r : Option LW) (sz' : Nat) (m' : Mem), P r sz' m' → Vw G y R Qf pc' L (r.toList ++ st) sz' m' (k + mc) (n + ms)) : Vw G y R Qf pc L S sz m k n := by
  obtain ⟨hd, rfl⟩ := h
  subst hst
  obtain ⟨hcode, hini, hmh, hpar⟩ := hc
  intro p e s mid args below meth c H locs ls hC hR hS hL hW
  have hx := hC
  obtain ⟨hexec, hb, hml, hrt, hlk, hown, hnm, hts, hB⟩ := hx
  have hWs : WSw L st := ⟨hW.1, fun w hw => hW.2 w (List.mem_append_right _ hw)⟩
  have hwf : ∀ v ∈ args2, wfw v := fun v hv => hW.2 v (List.mem_append_left _ (List.mem_reverse.mpr hv))
  have hB2 : CallB R s args y.1.cls idx y2.1 y2.2.1 y2.2.2.1 y2.2.2.2 (wsM y2) (rmM d2 mc ms) mc ms n2 := callB_of n2 hts (wsM_good hcode) rfl rfl rfl (hts _ hini) (hts _ hl) ⟨hmh.1, hmh.2, hpar⟩ hr.1
  refine Vw.back hC hS hL hWs (va_runS (As := args2.map toW) (rest := st.map toW) ⟨hexec, hb, hml, hown, hts⟩ ok ⟨hB2, hts _ hc1⟩ ⟨PcW.blind, fun U hU hWm => PcW.of hwf hB hR hS hU hWm⟩ rfl (by rw [List.length_map]; exact hn) hL.2.1 ?_ (lv_room (by rw [cws_sum]; exact h8)) hd hr.2) kk
  show List.map toW (args2.reverse ++ st) = _
  rw [List.map_append, List.map_reverse]
theorem Vw.callI {y2 : MK} {d2 mc ms n2 idx a : Nat} {args2 S : List LW} {P : POw} (h : At y pc (.invokespecial idx) 3 pc') (hl : Cond.methodLink y.1.cls idx y2.1 ∈ GW) (hc : callee y2 n2) (hc1 : Cond.instanceMethod y2.1 ∈ GW) (hc2 : y2.1.name = "<init>") (hc3 : y2.2.2.2 = none)
    (hn : args2.length = n2) (ok : OkW G y2 d2 (wr (some a) :: args2) sz m mc ms P) (hst : S = args2.reverse ++ wr (some a) :: st) (h8 : cws st ≤ 8)
    (hr : (d2 + 1 ≤ R.frames ∧ 8 + (y2.2.2.1 + 11) + 40 * d2 ≤ R.locals) ∧ k + mc ≤ R.cells ∧ n + ms ≤ R.slots) (kk : ∀ (r : Option LW) (sz' : Nat) (m' : Mem), P r sz' m' → Vw G y R Qf pc' L (r.toList ++ st) sz' m' (k + mc) (n + ms)) : Vw G y R Qf pc L S sz m k n := by
  obtain ⟨hd, rfl⟩ := h
  subst hst
  obtain ⟨hcode, hini, hmh, hpar⟩ := hc
  intro p e s mid args below meth c H locs ls hC hR hS hL hW
  have hx := hC
  obtain ⟨hexec, hb, hml, hrt, hlk, hown, hnm, hts, hB⟩ := hx
  have hWs : WSw L st := ⟨hW.1, fun w hw => hW.2 w (List.mem_append_right _ (List.mem_cons_of_mem _ hw))⟩
  have hwf : ∀ v ∈ (wr (some a) :: args2 : List LW), wfw v := by
    refine wconsw trivial (fun v hv => hW.2 v (List.mem_append_left _ (List.mem_reverse.mpr hv)))
  have hB2 : CallB R s args y.1.cls idx y2.1 y2.2.1 y2.2.2.1 none (wsM y2) (rmM d2 mc ms) mc ms n2 := callB_of n2 hts (wsM_good hcode) (by unfold wsM; rw [hc3]) rfl rfl (hts _ hini) (hts _ hl) ⟨hmh.1, hmh.2, hpar⟩ hr.1
  refine Vw.back hC hS hL hWs (va_runI (b := a) (As := args2.map toW) (rest := st.map toW) ⟨hexec, hb, hml, hown, hts⟩ ok ⟨hB2, hc2, hts _ hc1⟩ ⟨PcW.blind, fun U hU hWm => PcW.of (args2 := wr (some a) :: args2) hwf hB hR hS hU hWm⟩ rfl (by rw [List.length_map]; exact hn) hL.2.1 ?_ (lv_room (by rw [cws_sum]; exact h8)) hd hr.2) kk
  show List.map toW (args2.reverse ++ wr (some a) :: st) = _
  rw [List.map_append, List.map_reverse]
  rfl
-- ends
theorem QcW.mk {G : GX} {P : POw} {s : State} {H : Heap} {locs : List Loc} {sz : Nat} {m : Mem} {r : Option LW} {args : Array Value} (hp : P r sz m) (hw : ∀ v, r = some v → wfw v) (hR : Rel G s H sz m) (hS : va_S (Afr G) s.heap H locs) (t : State) (ht : t.heap = H) (hW : s.WarmedH t.vm) : QcW G P args s (.returned (r.map toW)) t :=
  ⟨r, sz, m, rfl, hp, hw, by rw [ht]; exact hR.moved hW.alike, hS.F ht⟩
theorem Vw.iret {P : POw} {mc ms : Nat} {z : Int} (h : At y pc .ireturn 1 pc') (hrt : y.2.2.2 = some .int) (hk : k ≤ mc ∧ n ≤ ms) (hp : P (some (wi z)) sz m) : Vw G y R (QfW G P mc ms) pc L [wi z] sz m k n := by
  obtain ⟨hd, rfl⟩ := h
  intro p e s mid args below meth c H locs ls hC hR hS hL hW
  have hlocks := hC.2.2.2.2.1
  refine W.widen hk.1 hk.2 ?_
  exact W.iret (v := Int32.ofInt z) hC.1 hC.2.1 (hC.2.2.2.1.trans hrt) (fun t ht hWm => QcW.mk (r := some (wi z)) hp (fun v hv => by cases hv; exact hW.hd) hR hS t ht hWm) hS.2.2 hd
theorem Vw.zret {P : POw} {mc ms : Nat} {z : Int} (h : At y pc .ireturn 1 pc') (hrt : y.2.2.2 = some .boolean) (hz : z = 0 ∨ z = 1) (hk : k ≤ mc ∧ n ≤ ms) (hp : P (some (wi z)) sz m) : Vw G y R (QfW G P mc ms) pc L [wi z] sz m k n := by
  obtain ⟨hd, rfl⟩ := h
  intro p e s mid args below meth c H locs ls hC hR hS hL hW
  have hlocks := hC.2.2.2.2.1
  refine W.widen hk.1 hk.2 ?_
  exact W.zret (v := Int32.ofInt z) hC.1 hC.2.1 (hC.2.2.2.1.trans hrt) (by rcases hz with rfl | rfl <;> rfl) (fun t ht hWm => QcW.mk (r := some (wi z)) hp (fun v hv => by cases hv; exact hW.hd) hR hS t ht hWm) hS.2.2 hd
theorem Vw.lret {P : POw} {mc ms : Nat} {x : Int64} (h : At y pc .lreturn 1 pc') (hrt : y.2.2.2 = some .long) (hk : k ≤ mc ∧ n ≤ ms) (hp : P (some (wl x)) sz m) : Vw G y R (QfW G P mc ms) pc L [wl x] sz m k n := by
  obtain ⟨hd, rfl⟩ := h
  intro p e s mid args below meth c H locs ls hC hR hS hL hW
  have hlocks := hC.2.2.2.2.1
  refine W.widen hk.1 hk.2 ?_
  exact W.lret hC.1 hC.2.1 (hC.2.2.2.1.trans hrt) (fun t ht hWm => QcW.mk (r := some (wl x)) hp (fun v hv => by cases hv; trivial) hR hS t ht hWm) hS.2.2 hd
-- what a call's contract says, for what goes on behind it
def PIw (z : Int) (sz : Nat) (m : Mem) : POw := fun r s' m' => r = some (wi z) ∧ s' = sz ∧ m' = m
theorem gwI {z : Int} {s2 : Nat} {m2 : Mem} {k2 n2 : Nat} (kk : Vw G y R Qf pc' L (wi z :: st) s2 m2 k2 n2) : ∀ (r : Option LW) (sz' : Nat) (m' : Mem), PIw z s2 m2 r sz' m' → Vw G y R Qf pc' L (r.toList ++ st) sz' m' k2 n2 := by
  rintro r sz' m' ⟨rfl, rfl, rfl⟩
  exact kk
theorem gwL {z : Int} {s2 : Nat} {m2 : Mem} {k2 n2 : Nat} (kk : Vw G y R Qf pc' L (wi z :: st) s2 m2 k2 n2) : ∀ (r : Option LW) (sz' : Nat) (m' : Mem), liftP (PI z s2 m2) r sz' m' → Vw G y R Qf pc' L (r.toList ++ st) sz' m' k2 n2 := by
  rintro r sz' m' ⟨q, rfl, rfl, rfl, rfl⟩
  exact kk
end
section
variable {G : GX} {y : MK} {R : Room} {Qf : QF} {pc pc' : Nat} {L : List (Option LW)} {st : List LW} {sz : Nat} {m : Mem} {k n d2 mc ms idx : Nat}
theorem wall_X5_init {P : PO} {a : Nat} (h : At y pc (.invokespecial idx) 3 pc') (hl : Cond.methodLink y.1.cls idx yX5_init ∈ GW) (ok : Ok G kX5_init d2 [.inr (some a)] sz m mc ms P) (h8 : cws st ≤ 8) (hr : (d2 + 1 ≤ R.frames ∧ 8 + (2 + 11) + 40 * d2 ≤ R.locals) ∧ k + mc ≤ R.cells ∧ n + ms ≤ R.slots) (kk : ∀ (r : Option LW) (sz' : Nat) (m' : Mem), liftP P r sz' m' → Vw G y R Qf pc' L (r.toList ++ st) sz' m' (k + mc) (n + ms)) : Vw G y R Qf pc L (wr (some a) :: st) sz m k n := Vw.callI (args2 := []) h hl ca_X5_init gm_X5_init rfl rfl rfl (OkW.of ok) rfl h8 hr kk
theorem wall_X5_fill {x0 x1 x2 x3 : Int} {P : PO} {a : Nat} {fs : List AV} (h : At y pc (.invokevirtual idx) 3 pc') (hl : Cond.methodLink y.1.cls idx yX5_fill ∈ GW) (ok : Ok G kX5_fill d2 [.inr (some a), .inl x0, .inl x1, .inl x2, .inl x3] sz m mc ms P) (hm : m a = obj 5 fs) (h8 : cws st ≤ 8) (hr : (d2 + 1 ≤ R.frames ∧ 8 + (5 + 11) + 40 * d2 ≤ R.locals) ∧ k + mc ≤ R.cells ∧ n + ms ≤ R.slots) (kk : ∀ (r : Option LW) (sz' : Nat) (m' : Mem), liftP P r sz' m' → Vw G y R Qf pc' L (r.toList ++ st) sz' m' (k + mc) (n + ms)) : Vw G y R Qf pc L (wi x3 :: wi x2 :: wi x1 :: wi x0 :: wr (some a) :: st) sz m k n := Vw.callV (args2 := [wi x0, wi x1, wi x2, wi x3]) h hl ca_X5_fill gm_X5_fill ge_X5_fill rfl rfl (OkW.of ok) hm rfl h8 hr kk
theorem wall_X5_add {x0 x1 x2 x3 : Int} {P : PO} {a : Nat} {fs : List AV} (h : At y pc (.invokevirtual idx) 3 pc') (hl : Cond.methodLink y.1.cls idx yX5_add ∈ GW) (ok : Ok G kX5_add d2 [.inr (some a), .inl x0, .inl x1, .inl x2, .inl x3] sz m mc ms P) (hm : m a = obj 5 fs) (h8 : cws st ≤ 8) (hr : (d2 + 1 ≤ R.frames ∧ 8 + (5 + 11) + 40 * d2 ≤ R.locals) ∧ k + mc ≤ R.cells ∧ n + ms ≤ R.slots) (kk : ∀ (r : Option LW) (sz' : Nat) (m' : Mem), liftP P r sz' m' → Vw G y R Qf pc' L (r.toList ++ st) sz' m' (k + mc) (n + ms)) : Vw G y R Qf pc L (wi x3 :: wi x2 :: wi x1 :: wi x0 :: wr (some a) :: st) sz m k n := Vw.callV (args2 := [wi x0, wi x1, wi x2, wi x3]) h hl ca_X5_add gm_X5_add ge_X5_add rfl rfl (OkW.of ok) hm rfl h8 hr kk
theorem wall_X5_turn {x0 x1 : Int} {P : PO} {a : Nat} {fs : List AV} (h : At y pc (.invokevirtual idx) 3 pc') (hl : Cond.methodLink y.1.cls idx yX5_turn ∈ GW) (ok : Ok G kX5_turn d2 [.inr (some a), .inl x0, .inl x1] sz m mc ms P) (hm : m a = obj 5 fs) (h8 : cws st ≤ 8) (hr : (d2 + 1 ≤ R.frames ∧ 8 + (3 + 11) + 40 * d2 ≤ R.locals) ∧ k + mc ≤ R.cells ∧ n + ms ≤ R.slots) (kk : ∀ (r : Option LW) (sz' : Nat) (m' : Mem), liftP P r sz' m' → Vw G y R Qf pc' L (r.toList ++ st) sz' m' (k + mc) (n + ms)) : Vw G y R Qf pc L (wi x1 :: wi x0 :: wr (some a) :: st) sz m k n := Vw.callV (args2 := [wi x0, wi x1]) h hl ca_X5_turn gm_X5_turn ge_X5_turn rfl rfl (OkW.of ok) hm rfl h8 hr kk
theorem wall_X5_renew {x0 : Int} {P : PO} {a : Nat} {fs : List AV} (h : At y pc (.invokevirtual idx) 3 pc') (hl : Cond.methodLink y.1.cls idx yX5_renew ∈ GW) (ok : Ok G kX5_renew d2 [.inr (some a), .inl x0] sz m mc ms P) (hm : m a = obj 5 fs) (h8 : cws st ≤ 8) (hr : (d2 + 1 ≤ R.frames ∧ 8 + (3 + 11) + 40 * d2 ≤ R.locals) ∧ k + mc ≤ R.cells ∧ n + ms ≤ R.slots) (kk : ∀ (r : Option LW) (sz' : Nat) (m' : Mem), liftP P r sz' m' → Vw G y R Qf pc' L (r.toList ++ st) sz' m' (k + mc) (n + ms)) : Vw G y R Qf pc L (wi x0 :: wr (some a) :: st) sz m k n := Vw.callV (args2 := [wi x0]) h hl ca_X5_renew gm_X5_renew ge_X5_renew rfl rfl (OkW.of ok) hm rfl h8 hr kk
theorem wall_X5_setWay {x0 : Int} {P : PO} {a : Nat} {fs : List AV} (h : At y pc (.invokevirtual idx) 3 pc') (hl : Cond.methodLink y.1.cls idx yX5_setWay ∈ GW) (ok : Ok G kX5_setWay d2 [.inr (some a), .inl x0] sz m mc ms P) (hm : m a = obj 5 fs) (h8 : cws st ≤ 8) (hr : (d2 + 1 ≤ R.frames ∧ 8 + (2 + 11) + 40 * d2 ≤ R.locals) ∧ k + mc ≤ R.cells ∧ n + ms ≤ R.slots) (kk : ∀ (r : Option LW) (sz' : Nat) (m' : Mem), liftP P r sz' m' → Vw G y R Qf pc' L (r.toList ++ st) sz' m' (k + mc) (n + ms)) : Vw G y R Qf pc L (wi x0 :: wr (some a) :: st) sz m k n := Vw.callV (args2 := [wi x0]) h hl ca_X5_setWay gm_X5_setWay ge_X5_setWay rfl rfl (OkW.of ok) hm rfl h8 hr kk
theorem wall_X5_setRoom {x0 : Int} {P : PO} {a : Nat} {fs : List AV} (h : At y pc (.invokevirtual idx) 3 pc') (hl : Cond.methodLink y.1.cls idx yX5_setRoom ∈ GW) (ok : Ok G kX5_setRoom d2 [.inr (some a), .inl x0] sz m mc ms P) (hm : m a = obj 5 fs) (h8 : cws st ≤ 8) (hr : (d2 + 1 ≤ R.frames ∧ 8 + (2 + 11) + 40 * d2 ≤ R.locals) ∧ k + mc ≤ R.cells ∧ n + ms ≤ R.slots) (kk : ∀ (r : Option LW) (sz' : Nat) (m' : Mem), liftP P r sz' m' → Vw G y R Qf pc' L (r.toList ++ st) sz' m' (k + mc) (n + ms)) : Vw G y R Qf pc L (wi x0 :: wr (some a) :: st) sz m k n := Vw.callV (args2 := [wi x0]) h hl ca_X5_setRoom gm_X5_setRoom ge_X5_setRoom rfl rfl (OkW.of ok) hm rfl h8 hr kk
theorem wall_X5_flush {P : PO} {a : Nat} {fs : List AV} (h : At y pc (.invokevirtual idx) 3 pc') (hl : Cond.methodLink y.1.cls idx yX5_flush ∈ GW) (ok : Ok G kX5_flush d2 [.inr (some a)] sz m mc ms P) (hm : m a = obj 5 fs) (h8 : cws st ≤ 8) (hr : (d2 + 1 ≤ R.frames ∧ 8 + (1 + 11) + 40 * d2 ≤ R.locals) ∧ k + mc ≤ R.cells ∧ n + ms ≤ R.slots) (kk : ∀ (r : Option LW) (sz' : Nat) (m' : Mem), liftP P r sz' m' → Vw G y R Qf pc' L (r.toList ++ st) sz' m' (k + mc) (n + ms)) : Vw G y R Qf pc L (wr (some a) :: st) sz m k n := Vw.callV (args2 := []) h hl ca_X5_flush gm_X5_flush ge_X5_flush rfl rfl (OkW.of ok) hm rfl h8 hr kk
theorem wall_X5_store {x0 : Int} {P : PO} {a : Nat} {fs : List AV} (h : At y pc (.invokevirtual idx) 3 pc') (hl : Cond.methodLink y.1.cls idx yX5_store ∈ GW) (ok : Ok G kX5_store d2 [.inr (some a), .inl x0] sz m mc ms P) (hm : m a = obj 5 fs) (h8 : cws st ≤ 8) (hr : (d2 + 1 ≤ R.frames ∧ 8 + (2 + 11) + 40 * d2 ≤ R.locals) ∧ k + mc ≤ R.cells ∧ n + ms ≤ R.slots) (kk : ∀ (r : Option LW) (sz' : Nat) (m' : Mem), liftP P r sz' m' → Vw G y R Qf pc' L (r.toList ++ st) sz' m' (k + mc) (n + ms)) : Vw G y R Qf pc L (wi x0 :: wr (some a) :: st) sz m k n := Vw.callV (args2 := [wi x0]) h hl ca_X5_store gm_X5_store ge_X5_store rfl rfl (OkW.of ok) hm rfl h8 hr kk
theorem wall_X5_trim {P : PO} {a : Nat} {fs : List AV} (h : At y pc (.invokevirtual idx) 3 pc') (hl : Cond.methodLink y.1.cls idx yX5_trim ∈ GW) (ok : Ok G kX5_trim d2 [.inr (some a)] sz m mc ms P) (hm : m a = obj 5 fs) (h8 : cws st ≤ 8) (hr : (d2 + 1 ≤ R.frames ∧ 8 + (2 + 11) + 40 * d2 ≤ R.locals) ∧ k + mc ≤ R.cells ∧ n + ms ≤ R.slots) (kk : ∀ (r : Option LW) (sz' : Nat) (m' : Mem), liftP P r sz' m' → Vw G y R Qf pc' L (r.toList ++ st) sz' m' (k + mc) (n + ms)) : Vw G y R Qf pc L (wr (some a) :: st) sz m k n := Vw.callV (args2 := []) h hl ca_X5_trim gm_X5_trim ge_X5_trim rfl rfl (OkW.of ok) hm rfl h8 hr kk
theorem wall_X5_damage {x0 : Int} {P : PO} {a : Nat} {fs : List AV} (h : At y pc (.invokevirtual idx) 3 pc') (hl : Cond.methodLink y.1.cls idx yX5_damage ∈ GW) (ok : Ok G kX5_damage d2 [.inr (some a), .inl x0] sz m mc ms P) (hm : m a = obj 5 fs) (h8 : cws st ≤ 8) (hr : (d2 + 1 ≤ R.frames ∧ 8 + (2 + 11) + 40 * d2 ≤ R.locals) ∧ k + mc ≤ R.cells ∧ n + ms ≤ R.slots) (kk : ∀ (r : Option LW) (sz' : Nat) (m' : Mem), liftP P r sz' m' → Vw G y R Qf pc' L (r.toList ++ st) sz' m' (k + mc) (n + ms)) : Vw G y R Qf pc L (wi x0 :: wr (some a) :: st) sz m k n := Vw.callV (args2 := [wi x0]) h hl ca_X5_damage gm_X5_damage ge_X5_damage rfl rfl (OkW.of ok) hm rfl h8 hr kk
theorem wall_X5_crash {P : PO} {a : Nat} {fs : List AV} (h : At y pc (.invokevirtual idx) 3 pc') (hl : Cond.methodLink y.1.cls idx yX5_crash ∈ GW) (ok : Ok G kX5_crash d2 [.inr (some a)] sz m mc ms P) (hm : m a = obj 5 fs) (h8 : cws st ≤ 8) (hr : (d2 + 1 ≤ R.frames ∧ 8 + (1 + 11) + 40 * d2 ≤ R.locals) ∧ k + mc ≤ R.cells ∧ n + ms ≤ R.slots) (kk : ∀ (r : Option LW) (sz' : Nat) (m' : Mem), liftP P r sz' m' → Vw G y R Qf pc' L (r.toList ++ st) sz' m' (k + mc) (n + ms)) : Vw G y R Qf pc L (wr (some a) :: st) sz m k n := Vw.callV (args2 := []) h hl ca_X5_crash gm_X5_crash ge_X5_crash rfl rfl (OkW.of ok) hm rfl h8 hr kk
theorem wall_X5_undo {P : PO} {a : Nat} {fs : List AV} (h : At y pc (.invokevirtual idx) 3 pc') (hl : Cond.methodLink y.1.cls idx yX5_undo ∈ GW) (ok : Ok G kX5_undo d2 [.inr (some a)] sz m mc ms P) (hm : m a = obj 5 fs) (h8 : cws st ≤ 8) (hr : (d2 + 1 ≤ R.frames ∧ 8 + (1 + 11) + 40 * d2 ≤ R.locals) ∧ k + mc ≤ R.cells ∧ n + ms ≤ R.slots) (kk : ∀ (r : Option LW) (sz' : Nat) (m' : Mem), liftP P r sz' m' → Vw G y R Qf pc' L (r.toList ++ st) sz' m' (k + mc) (n + ms)) : Vw G y R Qf pc L (wr (some a) :: st) sz m k n := Vw.callV (args2 := []) h hl ca_X5_undo gm_X5_undo ge_X5_undo rfl rfl (OkW.of ok) hm rfl h8 hr kk
theorem wall_X5_keep {P : PO} {a : Nat} {fs : List AV} (h : At y pc (.invokevirtual idx) 3 pc') (hl : Cond.methodLink y.1.cls idx yX5_keep ∈ GW) (ok : Ok G kX5_keep d2 [.inr (some a)] sz m mc ms P) (hm : m a = obj 5 fs) (h8 : cws st ≤ 8) (hr : (d2 + 1 ≤ R.frames ∧ 8 + (1 + 11) + 40 * d2 ≤ R.locals) ∧ k + mc ≤ R.cells ∧ n + ms ≤ R.slots) (kk : ∀ (r : Option LW) (sz' : Nat) (m' : Mem), liftP P r sz' m' → Vw G y R Qf pc' L (r.toList ++ st) sz' m' (k + mc) (n + ms)) : Vw G y R Qf pc L (wr (some a) :: st) sz m k n := Vw.callV (args2 := []) h hl ca_X5_keep gm_X5_keep ge_X5_keep rfl rfl (OkW.of ok) hm rfl h8 hr kk
theorem wall_X5_restore {P : PO} {a : Nat} {fs : List AV} (h : At y pc (.invokevirtual idx) 3 pc') (hl : Cond.methodLink y.1.cls idx yX5_restore ∈ GW) (ok : Ok G kX5_restore d2 [.inr (some a)] sz m mc ms P) (hm : m a = obj 5 fs) (h8 : cws st ≤ 8) (hr : (d2 + 1 ≤ R.frames ∧ 8 + (1 + 11) + 40 * d2 ≤ R.locals) ∧ k + mc ≤ R.cells ∧ n + ms ≤ R.slots) (kk : ∀ (r : Option LW) (sz' : Nat) (m' : Mem), liftP P r sz' m' → Vw G y R Qf pc' L (r.toList ++ st) sz' m' (k + mc) (n + ms)) : Vw G y R Qf pc L (wr (some a) :: st) sz m k n := Vw.callV (args2 := []) h hl ca_X5_restore gm_X5_restore ge_X5_restore rfl rfl (OkW.of ok) hm rfl h8 hr kk
theorem wall_X5_count {x0 : Int} {P : PO} {a : Nat} {fs : List AV} (h : At y pc (.invokevirtual idx) 3 pc') (hl : Cond.methodLink y.1.cls idx yX5_count ∈ GW) (ok : Ok G kX5_count d2 [.inr (some a), .inl x0] sz m mc ms P) (hm : m a = obj 5 fs) (h8 : cws st ≤ 8) (hr : (d2 + 1 ≤ R.frames ∧ 8 + (2 + 11) + 40 * d2 ≤ R.locals) ∧ k + mc ≤ R.cells ∧ n + ms ≤ R.slots) (kk : ∀ (r : Option LW) (sz' : Nat) (m' : Mem), liftP P r sz' m' → Vw G y R Qf pc' L (r.toList ++ st) sz' m' (k + mc) (n + ms)) : Vw G y R Qf pc L (wi x0 :: wr (some a) :: st) sz m k n := Vw.callV (args2 := [wi x0]) h hl ca_X5_count gm_X5_count ge_X5_count rfl rfl (OkW.of ok) hm rfl h8 hr kk
theorem ca_L_part : callee kL_part 2 := ⟨gc_L_part, gi_RL, ⟨by decide, by decide⟩, by decide +kernel⟩
theorem wall_L_part {x0 x1 : LW} {P : POw} (h : At y pc (.invokestatic idx) 3 pc') (hl : Cond.methodLink y.1.cls idx yL_part ∈ GW) (ok : OkW G kL_part d2 [x0, x1] sz m mc ms P) (h8 : cws st ≤ 8) (hr : (d2 + 1 ≤ R.frames ∧ 8 + (2 + 11) + 40 * d2 ≤ R.locals) ∧ k + mc ≤ R.cells ∧ n + ms ≤ R.slots) (kk : ∀ (r : Option LW) (sz' : Nat) (m' : Mem), P r sz' m' → Vw G y R Qf pc' L (r.toList ++ st) sz' m' (k + mc) (n + ms)) : Vw G y R Qf pc L (x1 :: x0 :: st) sz m k n := Vw.callS (args2 := [x0, x1]) h hl ca_L_part gs_L_part rfl ok rfl h8 hr kk
theorem ca_L_drawn : callee kL_drawn 2 := ⟨gc_L_drawn, gi_RL, ⟨by decide, by decide⟩, by decide +kernel⟩
theorem wall_L_drawn {x0 x1 : LW} {P : POw} (h : At y pc (.invokestatic idx) 3 pc') (hl : Cond.methodLink y.1.cls idx yL_drawn ∈ GW) (ok : OkW G kL_drawn d2 [x0, x1] sz m mc ms P) (h8 : cws st ≤ 8) (hr : (d2 + 1 ≤ R.frames ∧ 8 + (2 + 11) + 40 * d2 ≤ R.locals) ∧ k + mc ≤ R.cells ∧ n + ms ≤ R.slots) (kk : ∀ (r : Option LW) (sz' : Nat) (m' : Mem), P r sz' m' → Vw G y R Qf pc' L (r.toList ++ st) sz' m' (k + mc) (n + ms)) : Vw G y R Qf pc L (x1 :: x0 :: st) sz m k n := Vw.callS (args2 := [x0, x1]) h hl ca_L_drawn gs_L_drawn rfl ok rfl h8 hr kk
theorem ca_L_seen : callee kL_seen 1 := ⟨gc_L_seen, gi_RL, ⟨by decide, by decide⟩, by decide +kernel⟩
theorem wall_L_seen {x0 : LW} {P : POw} (h : At y pc (.invokestatic idx) 3 pc') (hl : Cond.methodLink y.1.cls idx yL_seen ∈ GW) (ok : OkW G kL_seen d2 [x0] sz m mc ms P) (h8 : cws st ≤ 8) (hr : (d2 + 1 ≤ R.frames ∧ 8 + (5 + 11) + 40 * d2 ≤ R.locals) ∧ k + mc ≤ R.cells ∧ n + ms ≤ R.slots) (kk : ∀ (r : Option LW) (sz' : Nat) (m' : Mem), P r sz' m' → Vw G y R Qf pc' L (r.toList ++ st) sz' m' (k + mc) (n + ms)) : Vw G y R Qf pc L (x0 :: st) sz m k n := Vw.callS (args2 := [x0]) h hl ca_L_seen gs_L_seen rfl ok rfl h8 hr kk
theorem wall_X5_cell {x0 x1 : Int} {P : PO} {a : Nat} {fs : List AV} (h : At y pc (.invokevirtual idx) 3 pc') (hl : Cond.methodLink y.1.cls idx yX5_cell ∈ GW) (ok : Ok G kX5_cell d2 [.inr (some a), .inl x0, .inl x1] sz m mc ms P) (hm : m a = obj 5 fs) (h8 : cws st ≤ 8) (hr : (d2 + 1 ≤ R.frames ∧ 8 + (3 + 11) + 40 * d2 ≤ R.locals) ∧ k + mc ≤ R.cells ∧ n + ms ≤ R.slots) (kk : ∀ (r : Option LW) (sz' : Nat) (m' : Mem), liftP P r sz' m' → Vw G y R Qf pc' L (r.toList ++ st) sz' m' (k + mc) (n + ms)) : Vw G y R Qf pc L (wi x1 :: wi x0 :: wr (some a) :: st) sz m k n := Vw.callV (args2 := [wi x0, wi x1]) h hl ca_X5_cell gm_X5_cell ge_X5_cell rfl rfl (OkW.of ok) hm rfl h8 hr kk
theorem wall_X5_stored {x0 x1 : Int} {P : PO} {a : Nat} {fs : List AV} (h : At y pc (.invokevirtual idx) 3 pc') (hl : Cond.methodLink y.1.cls idx yX5_stored ∈ GW) (ok : Ok G kX5_stored d2 [.inr (some a), .inl x0, .inl x1] sz m mc ms P) (hm : m a = obj 5 fs) (h8 : cws st ≤ 8) (hr : (d2 + 1 ≤ R.frames ∧ 8 + (3 + 11) + 40 * d2 ≤ R.locals) ∧ k + mc ≤ R.cells ∧ n + ms ≤ R.slots) (kk : ∀ (r : Option LW) (sz' : Nat) (m' : Mem), liftP P r sz' m' → Vw G y R Qf pc' L (r.toList ++ st) sz' m' (k + mc) (n + ms)) : Vw G y R Qf pc L (wi x1 :: wi x0 :: wr (some a) :: st) sz m k n := Vw.callV (args2 := [wi x0, wi x1]) h hl ca_X5_stored gm_X5_stored ge_X5_stored rfl rfl (OkW.of ok) hm rfl h8 hr kk
theorem wall_X5_page {x0 x1 : Int} {P : PO} {a : Nat} {fs : List AV} (h : At y pc (.invokevirtual idx) 3 pc') (hl : Cond.methodLink y.1.cls idx yX5_page ∈ GW) (ok : Ok G kX5_page d2 [.inr (some a), .inl x0, .inl x1] sz m mc ms P) (hm : m a = obj 5 fs) (h8 : cws st ≤ 8) (hr : (d2 + 1 ≤ R.frames ∧ 8 + (5 + 11) + 40 * d2 ≤ R.locals) ∧ k + mc ≤ R.cells ∧ n + ms ≤ R.slots) (kk : ∀ (r : Option LW) (sz' : Nat) (m' : Mem), liftP P r sz' m' → Vw G y R Qf pc' L (r.toList ++ st) sz' m' (k + mc) (n + ms)) : Vw G y R Qf pc L (wi x1 :: wi x0 :: wr (some a) :: st) sz m k n := Vw.callV (args2 := [wi x0, wi x1]) h hl ca_X5_page gm_X5_page ge_X5_page rfl rfl (OkW.of ok) hm rfl h8 hr kk
theorem wall_X5_entry {x0 x1 : Int} {P : PO} {a : Nat} {fs : List AV} (h : At y pc (.invokevirtual idx) 3 pc') (hl : Cond.methodLink y.1.cls idx yX5_entry ∈ GW) (ok : Ok G kX5_entry d2 [.inr (some a), .inl x0, .inl x1] sz m mc ms P) (hm : m a = obj 5 fs) (h8 : cws st ≤ 8) (hr : (d2 + 1 ≤ R.frames ∧ 8 + (4 + 11) + 40 * d2 ≤ R.locals) ∧ k + mc ≤ R.cells ∧ n + ms ≤ R.slots) (kk : ∀ (r : Option LW) (sz' : Nat) (m' : Mem), liftP P r sz' m' → Vw G y R Qf pc' L (r.toList ++ st) sz' m' (k + mc) (n + ms)) : Vw G y R Qf pc L (wi x1 :: wi x0 :: wr (some a) :: st) sz m k n := Vw.callV (args2 := [wi x0, wi x1]) h hl ca_X5_entry gm_X5_entry ge_X5_entry rfl rfl (OkW.of ok) hm rfl h8 hr kk
theorem ca_L_refused : callee kL_refused 1 := ⟨gc_L_refused, gi_RL, ⟨by decide, by decide⟩, by decide +kernel⟩
theorem wall_L_refused {x0 : LW} {P : POw} (h : At y pc (.invokestatic idx) 3 pc') (hl : Cond.methodLink y.1.cls idx yL_refused ∈ GW) (ok : OkW G kL_refused d2 [x0] sz m mc ms P) (h8 : cws st ≤ 8) (hr : (d2 + 1 ≤ R.frames ∧ 8 + (4 + 11) + 40 * d2 ≤ R.locals) ∧ k + mc ≤ R.cells ∧ n + ms ≤ R.slots) (kk : ∀ (r : Option LW) (sz' : Nat) (m' : Mem), P r sz' m' → Vw G y R Qf pc' L (r.toList ++ st) sz' m' (k + mc) (n + ms)) : Vw G y R Qf pc L (x0 :: st) sz m k n := Vw.callS (args2 := [x0]) h hl ca_L_refused gs_L_refused rfl ok rfl h8 hr kk
theorem ca_L_refusesAny : callee kL_refusesAny 2 := ⟨gc_L_refusesAny, gi_RL, ⟨by decide, by decide⟩, by decide +kernel⟩
theorem wall_L_refusesAny {x0 x1 : LW} {P : POw} (h : At y pc (.invokestatic idx) 3 pc') (hl : Cond.methodLink y.1.cls idx yL_refusesAny ∈ GW) (ok : OkW G kL_refusesAny d2 [x0, x1] sz m mc ms P) (h8 : cws st ≤ 8) (hr : (d2 + 1 ≤ R.frames ∧ 8 + (5 + 11) + 40 * d2 ≤ R.locals) ∧ k + mc ≤ R.cells ∧ n + ms ≤ R.slots) (kk : ∀ (r : Option LW) (sz' : Nat) (m' : Mem), P r sz' m' → Vw G y R Qf pc' L (r.toList ++ st) sz' m' (k + mc) (n + ms)) : Vw G y R Qf pc L (x1 :: x0 :: st) sz m k n := Vw.callS (args2 := [x0, x1]) h hl ca_L_refusesAny gs_L_refusesAny rfl ok rfl h8 hr kk
theorem wall_X5_asOf {x0 x1 x2 : Int} {P : PO} {a : Nat} {fs : List AV} (h : At y pc (.invokevirtual idx) 3 pc') (hl : Cond.methodLink y.1.cls idx yX5_asOf ∈ GW) (ok : Ok G kX5_asOf d2 [.inr (some a), .inl x0, .inl x1, .inl x2] sz m mc ms P) (hm : m a = obj 5 fs) (h8 : cws st ≤ 8) (hr : (d2 + 1 ≤ R.frames ∧ 8 + (5 + 11) + 40 * d2 ≤ R.locals) ∧ k + mc ≤ R.cells ∧ n + ms ≤ R.slots) (kk : ∀ (r : Option LW) (sz' : Nat) (m' : Mem), liftP P r sz' m' → Vw G y R Qf pc' L (r.toList ++ st) sz' m' (k + mc) (n + ms)) : Vw G y R Qf pc L (wi x2 :: wi x1 :: wi x0 :: wr (some a) :: st) sz m k n := Vw.callV (args2 := [wi x0, wi x1, wi x2]) h hl ca_X5_asOf gm_X5_asOf ge_X5_asOf rfl rfl (OkW.of ok) hm rfl h8 hr kk
theorem wall_X5_wouldLog {x0 x1 : Int} {P : PO} {a : Nat} {fs : List AV} (h : At y pc (.invokevirtual idx) 3 pc') (hl : Cond.methodLink y.1.cls idx yX5_wouldLog ∈ GW) (ok : Ok G kX5_wouldLog d2 [.inr (some a), .inl x0, .inl x1] sz m mc ms P) (hm : m a = obj 5 fs) (h8 : cws st ≤ 8) (hr : (d2 + 1 ≤ R.frames ∧ 8 + (4 + 11) + 40 * d2 ≤ R.locals) ∧ k + mc ≤ R.cells ∧ n + ms ≤ R.slots) (kk : ∀ (r : Option LW) (sz' : Nat) (m' : Mem), liftP P r sz' m' → Vw G y R Qf pc' L (r.toList ++ st) sz' m' (k + mc) (n + ms)) : Vw G y R Qf pc L (wi x1 :: wi x0 :: wr (some a) :: st) sz m k n := Vw.callV (args2 := [wi x0, wi x1]) h hl ca_X5_wouldLog gm_X5_wouldLog ge_X5_wouldLog rfl rfl (OkW.of ok) hm rfl h8 hr kk
theorem ca_L_pages : callee kL_pages 0 := ⟨gc_L_pages, gi_RL, ⟨by decide, by decide⟩, by decide +kernel⟩
theorem wall_L_pages {P : POw} (h : At y pc (.invokestatic idx) 3 pc') (hl : Cond.methodLink y.1.cls idx yL_pages ∈ GW) (ok : OkW G kL_pages d2 [] sz m mc ms P) (h8 : cws st ≤ 8) (hr : (d2 + 1 ≤ R.frames ∧ 8 + (1 + 11) + 40 * d2 ≤ R.locals) ∧ k + mc ≤ R.cells ∧ n + ms ≤ R.slots) (kk : ∀ (r : Option LW) (sz' : Nat) (m' : Mem), P r sz' m' → Vw G y R Qf pc' L (r.toList ++ st) sz' m' (k + mc) (n + ms)) : Vw G y R Qf pc L (st) sz m k n := Vw.callS (args2 := []) h hl ca_L_pages gs_L_pages rfl ok rfl h8 hr kk
theorem wall_X5_bestRenewed {P : PO} {a : Nat} {fs : List AV} (h : At y pc (.invokevirtual idx) 3 pc') (hl : Cond.methodLink y.1.cls idx yX5_bestRenewed ∈ GW) (ok : Ok G kX5_bestRenewed d2 [.inr (some a)] sz m mc ms P) (hm : m a = obj 5 fs) (h8 : cws st ≤ 8) (hr : (d2 + 1 ≤ R.frames ∧ 8 + (5 + 11) + 40 * d2 ≤ R.locals) ∧ k + mc ≤ R.cells ∧ n + ms ≤ R.slots) (kk : ∀ (r : Option LW) (sz' : Nat) (m' : Mem), liftP P r sz' m' → Vw G y R Qf pc' L (r.toList ++ st) sz' m' (k + mc) (n + ms)) : Vw G y R Qf pc L (wr (some a) :: st) sz m k n := Vw.callV (args2 := []) h hl ca_X5_bestRenewed gm_X5_bestRenewed ge_X5_bestRenewed rfl rfl (OkW.of ok) hm rfl h8 hr kk
theorem ca_L_isPage : callee kL_isPage 3 := ⟨gc_L_isPage, gi_RL, ⟨by decide, by decide⟩, by decide +kernel⟩
theorem wall_L_isPage {x0 x1 x2 : LW} {P : POw} (h : At y pc (.invokestatic idx) 3 pc') (hl : Cond.methodLink y.1.cls idx yL_isPage ∈ GW) (ok : OkW G kL_isPage d2 [x0, x1, x2] sz m mc ms P) (h8 : cws st ≤ 8) (hr : (d2 + 1 ≤ R.frames ∧ 8 + (6 + 11) + 40 * d2 ≤ R.locals) ∧ k + mc ≤ R.cells ∧ n + ms ≤ R.slots) (kk : ∀ (r : Option LW) (sz' : Nat) (m' : Mem), P r sz' m' → Vw G y R Qf pc' L (r.toList ++ st) sz' m' (k + mc) (n + ms)) : Vw G y R Qf pc L (x2 :: x1 :: x0 :: st) sz m k n := Vw.callS (args2 := [x0, x1, x2]) h hl ca_L_isPage gs_L_isPage rfl ok rfl h8 hr kk
theorem ca_L_texts : callee kL_texts 0 := ⟨gc_L_texts, gi_RL, ⟨by decide, by decide⟩, by decide +kernel⟩
theorem wall_L_texts {P : POw} (h : At y pc (.invokestatic idx) 3 pc') (hl : Cond.methodLink y.1.cls idx yL_texts ∈ GW) (ok : OkW G kL_texts d2 [] sz m mc ms P) (h8 : cws st ≤ 8) (hr : (d2 + 1 ≤ R.frames ∧ 8 + (2 + 11) + 40 * d2 ≤ R.locals) ∧ k + mc ≤ R.cells ∧ n + ms ≤ R.slots) (kk : ∀ (r : Option LW) (sz' : Nat) (m' : Mem), P r sz' m' → Vw G y R Qf pc' L (r.toList ++ st) sz' m' (k + mc) (n + ms)) : Vw G y R Qf pc L (st) sz m k n := Vw.callS (args2 := []) h hl ca_L_texts gs_L_texts rfl ok rfl h8 hr kk
theorem ca_L_faultOf : callee kL_faultOf 2 := ⟨gc_L_faultOf, gi_RL, ⟨by decide, by decide⟩, by decide +kernel⟩
theorem wall_L_faultOf {x0 x1 : LW} {P : POw} (h : At y pc (.invokestatic idx) 3 pc') (hl : Cond.methodLink y.1.cls idx yL_faultOf ∈ GW) (ok : OkW G kL_faultOf d2 [x0, x1] sz m mc ms P) (h8 : cws st ≤ 8) (hr : (d2 + 1 ≤ R.frames ∧ 8 + (6 + 11) + 40 * d2 ≤ R.locals) ∧ k + mc ≤ R.cells ∧ n + ms ≤ R.slots) (kk : ∀ (r : Option LW) (sz' : Nat) (m' : Mem), P r sz' m' → Vw G y R Qf pc' L (r.toList ++ st) sz' m' (k + mc) (n + ms)) : Vw G y R Qf pc L (x1 :: x0 :: st) sz m k n := Vw.callS (args2 := [x0, x1]) h hl ca_L_faultOf gs_L_faultOf rfl ok rfl h8 hr kk
theorem ca_L_types : callee kL_types 2 := ⟨gc_L_types, gi_RL, ⟨by decide, by decide⟩, by decide +kernel⟩
theorem wall_L_types {x0 x1 : LW} {P : POw} (h : At y pc (.invokestatic idx) 3 pc') (hl : Cond.methodLink y.1.cls idx yL_types ∈ GW) (ok : OkW G kL_types d2 [x0, x1] sz m mc ms P) (h8 : cws st ≤ 8) (hr : (d2 + 1 ≤ R.frames ∧ 8 + (6 + 11) + 40 * d2 ≤ R.locals) ∧ k + mc ≤ R.cells ∧ n + ms ≤ R.slots) (kk : ∀ (r : Option LW) (sz' : Nat) (m' : Mem), P r sz' m' → Vw G y R Qf pc' L (r.toList ++ st) sz' m' (k + mc) (n + ms)) : Vw G y R Qf pc L (x1 :: x0 :: st) sz m k n := Vw.callS (args2 := [x0, x1]) h hl ca_L_types gs_L_types rfl ok rfl h8 hr kk
theorem wall_X5_type {x0 : Int} {P : PO} {a : Nat} {fs : List AV} (h : At y pc (.invokevirtual idx) 3 pc') (hl : Cond.methodLink y.1.cls idx yX5_type ∈ GW) (ok : Ok G kX5_type d2 [.inr (some a), .inl x0] sz m mc ms P) (hm : m a = obj 5 fs) (h8 : cws st ≤ 8) (hr : (d2 + 1 ≤ R.frames ∧ 8 + (2 + 11) + 40 * d2 ≤ R.locals) ∧ k + mc ≤ R.cells ∧ n + ms ≤ R.slots) (kk : ∀ (r : Option LW) (sz' : Nat) (m' : Mem), liftP P r sz' m' → Vw G y R Qf pc' L (r.toList ++ st) sz' m' (k + mc) (n + ms)) : Vw G y R Qf pc L (wi x0 :: wr (some a) :: st) sz m k n := Vw.callV (args2 := [wi x0]) h hl ca_X5_type gm_X5_type ge_X5_type rfl rfl (OkW.of ok) hm rfl h8 hr kk
theorem wall_X5_readOrders {P : PO} {a : Nat} {fs : List AV} (h : At y pc (.invokevirtual idx) 3 pc') (hl : Cond.methodLink y.1.cls idx yX5_readOrders ∈ GW) (ok : Ok G kX5_readOrders d2 [.inr (some a)] sz m mc ms P) (hm : m a = obj 5 fs) (h8 : cws st ≤ 8) (hr : (d2 + 1 ≤ R.frames ∧ 8 + (5 + 11) + 40 * d2 ≤ R.locals) ∧ k + mc ≤ R.cells ∧ n + ms ≤ R.slots) (kk : ∀ (r : Option LW) (sz' : Nat) (m' : Mem), liftP P r sz' m' → Vw G y R Qf pc' L (r.toList ++ st) sz' m' (k + mc) (n + ms)) : Vw G y R Qf pc L (wr (some a) :: st) sz m k n := Vw.callV (args2 := []) h hl ca_X5_readOrders gm_X5_readOrders ge_X5_readOrders rfl rfl (OkW.of ok) hm rfl h8 hr kk
theorem wall_X5_clearText {P : PO} {a : Nat} {fs : List AV} (h : At y pc (.invokevirtual idx) 3 pc') (hl : Cond.methodLink y.1.cls idx yX5_clearText ∈ GW) (ok : Ok G kX5_clearText d2 [.inr (some a)] sz m mc ms P) (hm : m a = obj 5 fs) (h8 : cws st ≤ 8) (hr : (d2 + 1 ≤ R.frames ∧ 8 + (2 + 11) + 40 * d2 ≤ R.locals) ∧ k + mc ≤ R.cells ∧ n + ms ≤ R.slots) (kk : ∀ (r : Option LW) (sz' : Nat) (m' : Mem), liftP P r sz' m' → Vw G y R Qf pc' L (r.toList ++ st) sz' m' (k + mc) (n + ms)) : Vw G y R Qf pc L (wr (some a) :: st) sz m k n := Vw.callV (args2 := []) h hl ca_X5_clearText gm_X5_clearText ge_X5_clearText rfl rfl (OkW.of ok) hm rfl h8 hr kk
end
section
variable {G : GX} {y : MK} {R : Room} {Qf : QF} {pc pc' : Nat} {st : List LW} {sz : Nat} {m : Mem} {k n : Nat}
theorem Vw.ild0 {z : Int} {L : List (Option LW)} (h : At y pc (.iload_n 0) 1 pc') (kk : Vw G y R Qf pc' (some (wi z) :: L) (wi z :: st) sz m k n) : Vw G y R Qf pc (some (wi z) :: L) st sz m k n := Vw.iload_n h rfl kk
theorem Vw.lld0 {x : Int64} {L : List (Option LW)} (h : At y pc (.lload_n 0) 1 pc') (kk : Vw G y R Qf pc' (some (wl x) :: L) (wl x :: st) sz m k n) : Vw G y R Qf pc (some (wl x) :: L) st sz m k n := Vw.lload_n h rfl kk
theorem Vw.ald0 {a : Nat} {L : List (Option LW)} (h : At y pc (.aload_n 0) 1 pc') (kk : Vw G y R Qf pc' (some (wr (some a)) :: L) (wr (some a) :: st) sz m k n) : Vw G y R Qf pc (some (wr (some a)) :: L) st sz m k n := Vw.aload_n h rfl kk
theorem Vw.ist0 {w : Option LW} {z : Int} {L : List (Option LW)} (h : At y pc (.istore_n 0) 1 pc') (hf : freeAt (w :: L) 0 = true) (kk : Vw G y R Qf pc' (some (wi z) :: L) st sz m k n) : Vw G y R Qf pc (w :: L) (wi z :: st) sz m k n := Vw.istore_n h (by show 0 < List.length _; simp) hf kk
theorem Vw.ast0 {w : Option LW} {a : Nat} {L : List (Option LW)} (h : At y pc (.astore_n 0) 1 pc') (hf : freeAt (w :: L) 0 = true) (kk : Vw G y R Qf pc' (some (wr (some a)) :: L) st sz m k n) : Vw G y R Qf pc (w :: L) (wr (some a) :: st) sz m k n := Vw.astore_n h (by show 0 < List.length _; simp) hf kk
theorem Vw.inc0 {d z : Int} {L : List (Option LW)} (h : At y pc (.iinc 0 d) 3 pc') (hz : inR (z + d)) (hf : freeAt (some (wi z) :: L) 0 = true) (kk : Vw G y R Qf pc' (some (wi (z + d)) :: L) st sz m k n) : Vw G y R Qf pc (some (wi z) :: L) st sz m k n := Vw.iinc h rfl hz hf kk
theorem Vw.lst0 {w v : Option LW} {x : Int64} {L : List (Option LW)} (h : At y pc (.lstore_n 0) 1 pc') (hf : freeAt (w :: v :: L) 0 = true) (kk : Vw G y R Qf pc' (some (wl x) :: none :: L) st sz m k n) : Vw G y R Qf pc (w :: v :: L) (wl x :: st) sz m k n := Vw.lstore_n h (by show 0 + 1 < List.length _; simp) hf kk
theorem Vw.ild1 {x0 : Option LW} {z : Int} {L : List (Option LW)} (h : At y pc (.iload_n 1) 1 pc') (kk : Vw G y R Qf pc' (x0 :: some (wi z) :: L) (wi z :: st) sz m k n) : Vw G y R Qf pc (x0 :: some (wi z) :: L) st sz m k n := Vw.iload_n h rfl kk
theorem Vw.lld1 {x0 : Option LW} {x : Int64} {L : List (Option LW)} (h : At y pc (.lload_n 1) 1 pc') (kk : Vw G y R Qf pc' (x0 :: some (wl x) :: L) (wl x :: st) sz m k n) : Vw G y R Qf pc (x0 :: some (wl x) :: L) st sz m k n := Vw.lload_n h rfl kk
theorem Vw.ald1 {x0 : Option LW} {a : Nat} {L : List (Option LW)} (h : At y pc (.aload_n 1) 1 pc') (kk : Vw G y R Qf pc' (x0 :: some (wr (some a)) :: L) (wr (some a) :: st) sz m k n) : Vw G y R Qf pc (x0 :: some (wr (some a)) :: L) st sz m k n := Vw.aload_n h rfl kk
theorem Vw.ist1 {x0 : Option LW} {w : Option LW} {z : Int} {L : List (Option LW)} (h : At y pc (.istore_n 1) 1 pc') (hf : freeAt (x0 :: w :: L) 1 = true) (kk : Vw G y R Qf pc' (x0 :: some (wi z) :: L) st sz m k n) : Vw G y R Qf pc (x0 :: w :: L) (wi z :: st) sz m k n := Vw.istore_n h (by show 1 < List.length _; simp) hf kk
theorem Vw.ast1 {x0 : Option LW} {w : Option LW} {a : Nat} {L : List (Option LW)} (h : At y pc (.astore_n 1) 1 pc') (hf : freeAt (x0 :: w :: L) 1 = true) (kk : Vw G y R Qf pc' (x0 :: some (wr (some a)) :: L) st sz m k n) : Vw G y R Qf pc (x0 :: w :: L) (wr (some a) :: st) sz m k n := Vw.astore_n h (by show 1 < List.length _; simp) hf kk
theorem Vw.inc1 {x0 : Option LW} {d z : Int} {L : List (Option LW)} (h : At y pc (.iinc 1 d) 3 pc') (hz : inR (z + d)) (hf : freeAt (x0 :: some (wi z) :: L) 1 = true) (kk : Vw G y R Qf pc' (x0 :: some (wi (z + d)) :: L) st sz m k n) : Vw G y R Qf pc (x0 :: some (wi z) :: L) st sz m k n := Vw.iinc h rfl hz hf kk
theorem Vw.lst1 {x0 : Option LW} {w v : Option LW} {x : Int64} {L : List (Option LW)} (h : At y pc (.lstore_n 1) 1 pc') (hf : freeAt (x0 :: w :: v :: L) 1 = true) (kk : Vw G y R Qf pc' (x0 :: some (wl x) :: none :: L) st sz m k n) : Vw G y R Qf pc (x0 :: w :: v :: L) (wl x :: st) sz m k n := Vw.lstore_n h (by show 1 + 1 < List.length _; simp) hf kk
theorem Vw.ild2 {x0 x1 : Option LW} {z : Int} {L : List (Option LW)} (h : At y pc (.iload_n 2) 1 pc') (kk : Vw G y R Qf pc' (x0 :: x1 :: some (wi z) :: L) (wi z :: st) sz m k n) : Vw G y R Qf pc (x0 :: x1 :: some (wi z) :: L) st sz m k n := Vw.iload_n h rfl kk
theorem Vw.lld2 {x0 x1 : Option LW} {x : Int64} {L : List (Option LW)} (h : At y pc (.lload_n 2) 1 pc') (kk : Vw G y R Qf pc' (x0 :: x1 :: some (wl x) :: L) (wl x :: st) sz m k n) : Vw G y R Qf pc (x0 :: x1 :: some (wl x) :: L) st sz m k n := Vw.lload_n h rfl kk
theorem Vw.ald2 {x0 x1 : Option LW} {a : Nat} {L : List (Option LW)} (h : At y pc (.aload_n 2) 1 pc') (kk : Vw G y R Qf pc' (x0 :: x1 :: some (wr (some a)) :: L) (wr (some a) :: st) sz m k n) : Vw G y R Qf pc (x0 :: x1 :: some (wr (some a)) :: L) st sz m k n := Vw.aload_n h rfl kk
theorem Vw.ist2 {x0 x1 : Option LW} {w : Option LW} {z : Int} {L : List (Option LW)} (h : At y pc (.istore_n 2) 1 pc') (hf : freeAt (x0 :: x1 :: w :: L) 2 = true) (kk : Vw G y R Qf pc' (x0 :: x1 :: some (wi z) :: L) st sz m k n) : Vw G y R Qf pc (x0 :: x1 :: w :: L) (wi z :: st) sz m k n := Vw.istore_n h (by show 2 < List.length _; simp) hf kk
theorem Vw.ast2 {x0 x1 : Option LW} {w : Option LW} {a : Nat} {L : List (Option LW)} (h : At y pc (.astore_n 2) 1 pc') (hf : freeAt (x0 :: x1 :: w :: L) 2 = true) (kk : Vw G y R Qf pc' (x0 :: x1 :: some (wr (some a)) :: L) st sz m k n) : Vw G y R Qf pc (x0 :: x1 :: w :: L) (wr (some a) :: st) sz m k n := Vw.astore_n h (by show 2 < List.length _; simp) hf kk
theorem Vw.inc2 {x0 x1 : Option LW} {d z : Int} {L : List (Option LW)} (h : At y pc (.iinc 2 d) 3 pc') (hz : inR (z + d)) (hf : freeAt (x0 :: x1 :: some (wi z) :: L) 2 = true) (kk : Vw G y R Qf pc' (x0 :: x1 :: some (wi (z + d)) :: L) st sz m k n) : Vw G y R Qf pc (x0 :: x1 :: some (wi z) :: L) st sz m k n := Vw.iinc h rfl hz hf kk
theorem Vw.lst2 {x0 x1 : Option LW} {w v : Option LW} {x : Int64} {L : List (Option LW)} (h : At y pc (.lstore_n 2) 1 pc') (hf : freeAt (x0 :: x1 :: w :: v :: L) 2 = true) (kk : Vw G y R Qf pc' (x0 :: x1 :: some (wl x) :: none :: L) st sz m k n) : Vw G y R Qf pc (x0 :: x1 :: w :: v :: L) (wl x :: st) sz m k n := Vw.lstore_n h (by show 2 + 1 < List.length _; simp) hf kk
theorem Vw.ild3 {x0 x1 x2 : Option LW} {z : Int} {L : List (Option LW)} (h : At y pc (.iload_n 3) 1 pc') (kk : Vw G y R Qf pc' (x0 :: x1 :: x2 :: some (wi z) :: L) (wi z :: st) sz m k n) : Vw G y R Qf pc (x0 :: x1 :: x2 :: some (wi z) :: L) st sz m k n := Vw.iload_n h rfl kk
theorem Vw.lld3 {x0 x1 x2 : Option LW} {x : Int64} {L : List (Option LW)} (h : At y pc (.lload_n 3) 1 pc') (kk : Vw G y R Qf pc' (x0 :: x1 :: x2 :: some (wl x) :: L) (wl x :: st) sz m k n) : Vw G y R Qf pc (x0 :: x1 :: x2 :: some (wl x) :: L) st sz m k n := Vw.lload_n h rfl kk
theorem Vw.ald3 {x0 x1 x2 : Option LW} {a : Nat} {L : List (Option LW)} (h : At y pc (.aload_n 3) 1 pc') (kk : Vw G y R Qf pc' (x0 :: x1 :: x2 :: some (wr (some a)) :: L) (wr (some a) :: st) sz m k n) : Vw G y R Qf pc (x0 :: x1 :: x2 :: some (wr (some a)) :: L) st sz m k n := Vw.aload_n h rfl kk
theorem Vw.ist3 {x0 x1 x2 : Option LW} {w : Option LW} {z : Int} {L : List (Option LW)} (h : At y pc (.istore_n 3) 1 pc') (hf : freeAt (x0 :: x1 :: x2 :: w :: L) 3 = true) (kk : Vw G y R Qf pc' (x0 :: x1 :: x2 :: some (wi z) :: L) st sz m k n) : Vw G y R Qf pc (x0 :: x1 :: x2 :: w :: L) (wi z :: st) sz m k n := Vw.istore_n h (by show 3 < List.length _; simp) hf kk
theorem Vw.ast3 {x0 x1 x2 : Option LW} {w : Option LW} {a : Nat} {L : List (Option LW)} (h : At y pc (.astore_n 3) 1 pc') (hf : freeAt (x0 :: x1 :: x2 :: w :: L) 3 = true) (kk : Vw G y R Qf pc' (x0 :: x1 :: x2 :: some (wr (some a)) :: L) st sz m k n) : Vw G y R Qf pc (x0 :: x1 :: x2 :: w :: L) (wr (some a) :: st) sz m k n := Vw.astore_n h (by show 3 < List.length _; simp) hf kk
theorem Vw.inc3 {x0 x1 x2 : Option LW} {d z : Int} {L : List (Option LW)} (h : At y pc (.iinc 3 d) 3 pc') (hz : inR (z + d)) (hf : freeAt (x0 :: x1 :: x2 :: some (wi z) :: L) 3 = true) (kk : Vw G y R Qf pc' (x0 :: x1 :: x2 :: some (wi (z + d)) :: L) st sz m k n) : Vw G y R Qf pc (x0 :: x1 :: x2 :: some (wi z) :: L) st sz m k n := Vw.iinc h rfl hz hf kk
theorem Vw.lst3 {x0 x1 x2 : Option LW} {w v : Option LW} {x : Int64} {L : List (Option LW)} (h : At y pc (.lstore_n 3) 1 pc') (hf : freeAt (x0 :: x1 :: x2 :: w :: v :: L) 3 = true) (kk : Vw G y R Qf pc' (x0 :: x1 :: x2 :: some (wl x) :: none :: L) st sz m k n) : Vw G y R Qf pc (x0 :: x1 :: x2 :: w :: v :: L) (wl x :: st) sz m k n := Vw.lstore_n h (by show 3 + 1 < List.length _; simp) hf kk
theorem Vw.ild4 {x0 x1 x2 x3 : Option LW} {z : Int} {L : List (Option LW)} (h : At y pc (.iload 4) 2 pc') (kk : Vw G y R Qf pc' (x0 :: x1 :: x2 :: x3 :: some (wi z) :: L) (wi z :: st) sz m k n) : Vw G y R Qf pc (x0 :: x1 :: x2 :: x3 :: some (wi z) :: L) st sz m k n := Vw.iload h rfl kk
theorem Vw.lld4 {x0 x1 x2 x3 : Option LW} {x : Int64} {L : List (Option LW)} (h : At y pc (.lload 4) 2 pc') (kk : Vw G y R Qf pc' (x0 :: x1 :: x2 :: x3 :: some (wl x) :: L) (wl x :: st) sz m k n) : Vw G y R Qf pc (x0 :: x1 :: x2 :: x3 :: some (wl x) :: L) st sz m k n := Vw.lload h rfl kk
theorem Vw.ald4 {x0 x1 x2 x3 : Option LW} {a : Nat} {L : List (Option LW)} (h : At y pc (.aload 4) 2 pc') (kk : Vw G y R Qf pc' (x0 :: x1 :: x2 :: x3 :: some (wr (some a)) :: L) (wr (some a) :: st) sz m k n) : Vw G y R Qf pc (x0 :: x1 :: x2 :: x3 :: some (wr (some a)) :: L) st sz m k n := Vw.aload h rfl kk
theorem Vw.ist4 {x0 x1 x2 x3 : Option LW} {w : Option LW} {z : Int} {L : List (Option LW)} (h : At y pc (.istore 4) 2 pc') (hf : freeAt (x0 :: x1 :: x2 :: x3 :: w :: L) 4 = true) (kk : Vw G y R Qf pc' (x0 :: x1 :: x2 :: x3 :: some (wi z) :: L) st sz m k n) : Vw G y R Qf pc (x0 :: x1 :: x2 :: x3 :: w :: L) (wi z :: st) sz m k n := Vw.istore h (by show 4 < List.length _; simp) hf kk
theorem Vw.ast4 {x0 x1 x2 x3 : Option LW} {w : Option LW} {a : Nat} {L : List (Option LW)} (h : At y pc (.astore 4) 2 pc') (hf : freeAt (x0 :: x1 :: x2 :: x3 :: w :: L) 4 = true) (kk : Vw G y R Qf pc' (x0 :: x1 :: x2 :: x3 :: some (wr (some a)) :: L) st sz m k n) : Vw G y R Qf pc (x0 :: x1 :: x2 :: x3 :: w :: L) (wr (some a) :: st) sz m k n := Vw.astore h (by show 4 < List.length _; simp) hf kk
theorem Vw.inc4 {x0 x1 x2 x3 : Option LW} {d z : Int} {L : List (Option LW)} (h : At y pc (.iinc 4 d) 3 pc') (hz : inR (z + d)) (hf : freeAt (x0 :: x1 :: x2 :: x3 :: some (wi z) :: L) 4 = true) (kk : Vw G y R Qf pc' (x0 :: x1 :: x2 :: x3 :: some (wi (z + d)) :: L) st sz m k n) : Vw G y R Qf pc (x0 :: x1 :: x2 :: x3 :: some (wi z) :: L) st sz m k n := Vw.iinc h rfl hz hf kk
theorem Vw.lst4 {x0 x1 x2 x3 : Option LW} {w v : Option LW} {x : Int64} {L : List (Option LW)} (h : At y pc (.lstore 4) 2 pc') (hf : freeAt (x0 :: x1 :: x2 :: x3 :: w :: v :: L) 4 = true) (kk : Vw G y R Qf pc' (x0 :: x1 :: x2 :: x3 :: some (wl x) :: none :: L) st sz m k n) : Vw G y R Qf pc (x0 :: x1 :: x2 :: x3 :: w :: v :: L) (wl x :: st) sz m k n := Vw.lstore h (by show 4 + 1 < List.length _; simp) hf kk
theorem Vw.ild5 {x0 x1 x2 x3 x4 : Option LW} {z : Int} {L : List (Option LW)} (h : At y pc (.iload 5) 2 pc') (kk : Vw G y R Qf pc' (x0 :: x1 :: x2 :: x3 :: x4 :: some (wi z) :: L) (wi z :: st) sz m k n) : Vw G y R Qf pc (x0 :: x1 :: x2 :: x3 :: x4 :: some (wi z) :: L) st sz m k n := Vw.iload h rfl kk
theorem Vw.lld5 {x0 x1 x2 x3 x4 : Option LW} {x : Int64} {L : List (Option LW)} (h : At y pc (.lload 5) 2 pc') (kk : Vw G y R Qf pc' (x0 :: x1 :: x2 :: x3 :: x4 :: some (wl x) :: L) (wl x :: st) sz m k n) : Vw G y R Qf pc (x0 :: x1 :: x2 :: x3 :: x4 :: some (wl x) :: L) st sz m k n := Vw.lload h rfl kk
theorem Vw.ald5 {x0 x1 x2 x3 x4 : Option LW} {a : Nat} {L : List (Option LW)} (h : At y pc (.aload 5) 2 pc') (kk : Vw G y R Qf pc' (x0 :: x1 :: x2 :: x3 :: x4 :: some (wr (some a)) :: L) (wr (some a) :: st) sz m k n) : Vw G y R Qf pc (x0 :: x1 :: x2 :: x3 :: x4 :: some (wr (some a)) :: L) st sz m k n := Vw.aload h rfl kk
theorem Vw.ist5 {x0 x1 x2 x3 x4 : Option LW} {w : Option LW} {z : Int} {L : List (Option LW)} (h : At y pc (.istore 5) 2 pc') (hf : freeAt (x0 :: x1 :: x2 :: x3 :: x4 :: w :: L) 5 = true) (kk : Vw G y R Qf pc' (x0 :: x1 :: x2 :: x3 :: x4 :: some (wi z) :: L) st sz m k n) : Vw G y R Qf pc (x0 :: x1 :: x2 :: x3 :: x4 :: w :: L) (wi z :: st) sz m k n := Vw.istore h (by show 5 < List.length _; simp) hf kk
theorem Vw.ast5 {x0 x1 x2 x3 x4 : Option LW} {w : Option LW} {a : Nat} {L : List (Option LW)} (h : At y pc (.astore 5) 2 pc') (hf : freeAt (x0 :: x1 :: x2 :: x3 :: x4 :: w :: L) 5 = true) (kk : Vw G y R Qf pc' (x0 :: x1 :: x2 :: x3 :: x4 :: some (wr (some a)) :: L) st sz m k n) : Vw G y R Qf pc (x0 :: x1 :: x2 :: x3 :: x4 :: w :: L) (wr (some a) :: st) sz m k n := Vw.astore h (by show 5 < List.length _; simp) hf kk
theorem Vw.inc5 {x0 x1 x2 x3 x4 : Option LW} {d z : Int} {L : List (Option LW)} (h : At y pc (.iinc 5 d) 3 pc') (hz : inR (z + d)) (hf : freeAt (x0 :: x1 :: x2 :: x3 :: x4 :: some (wi z) :: L) 5 = true) (kk : Vw G y R Qf pc' (x0 :: x1 :: x2 :: x3 :: x4 :: some (wi (z + d)) :: L) st sz m k n) : Vw G y R Qf pc (x0 :: x1 :: x2 :: x3 :: x4 :: some (wi z) :: L) st sz m k n := Vw.iinc h rfl hz hf kk
theorem Vw.lst5 {x0 x1 x2 x3 x4 : Option LW} {w v : Option LW} {x : Int64} {L : List (Option LW)} (h : At y pc (.lstore 5) 2 pc') (hf : freeAt (x0 :: x1 :: x2 :: x3 :: x4 :: w :: v :: L) 5 = true) (kk : Vw G y R Qf pc' (x0 :: x1 :: x2 :: x3 :: x4 :: some (wl x) :: none :: L) st sz m k n) : Vw G y R Qf pc (x0 :: x1 :: x2 :: x3 :: x4 :: w :: v :: L) (wl x :: st) sz m k n := Vw.lstore h (by show 5 + 1 < List.length _; simp) hf kk
theorem Vw.ild6 {x0 x1 x2 x3 x4 x5 : Option LW} {z : Int} {L : List (Option LW)} (h : At y pc (.iload 6) 2 pc') (kk : Vw G y R Qf pc' (x0 :: x1 :: x2 :: x3 :: x4 :: x5 :: some (wi z) :: L) (wi z :: st) sz m k n) : Vw G y R Qf pc (x0 :: x1 :: x2 :: x3 :: x4 :: x5 :: some (wi z) :: L) st sz m k n := Vw.iload h rfl kk
theorem Vw.lld6 {x0 x1 x2 x3 x4 x5 : Option LW} {x : Int64} {L : List (Option LW)} (h : At y pc (.lload 6) 2 pc') (kk : Vw G y R Qf pc' (x0 :: x1 :: x2 :: x3 :: x4 :: x5 :: some (wl x) :: L) (wl x :: st) sz m k n) : Vw G y R Qf pc (x0 :: x1 :: x2 :: x3 :: x4 :: x5 :: some (wl x) :: L) st sz m k n := Vw.lload h rfl kk
theorem Vw.ald6 {x0 x1 x2 x3 x4 x5 : Option LW} {a : Nat} {L : List (Option LW)} (h : At y pc (.aload 6) 2 pc') (kk : Vw G y R Qf pc' (x0 :: x1 :: x2 :: x3 :: x4 :: x5 :: some (wr (some a)) :: L) (wr (some a) :: st) sz m k n) : Vw G y R Qf pc (x0 :: x1 :: x2 :: x3 :: x4 :: x5 :: some (wr (some a)) :: L) st sz m k n := Vw.aload h rfl kk
theorem Vw.ist6 {x0 x1 x2 x3 x4 x5 : Option LW} {w : Option LW} {z : Int} {L : List (Option LW)} (h : At y pc (.istore 6) 2 pc') (hf : freeAt (x0 :: x1 :: x2 :: x3 :: x4 :: x5 :: w :: L) 6 = true) (kk : Vw G y R Qf pc' (x0 :: x1 :: x2 :: x3 :: x4 :: x5 :: some (wi z) :: L) st sz m k n) : Vw G y R Qf pc (x0 :: x1 :: x2 :: x3 :: x4 :: x5 :: w :: L) (wi z :: st) sz m k n := Vw.istore h (by show 6 < List.length _; simp) hf kk
theorem Vw.ast6 {x0 x1 x2 x3 x4 x5 : Option LW} {w : Option LW} {a : Nat} {L : List (Option LW)} (h : At y pc (.astore 6) 2 pc') (hf : freeAt (x0 :: x1 :: x2 :: x3 :: x4 :: x5 :: w :: L) 6 = true) (kk : Vw G y R Qf pc' (x0 :: x1 :: x2 :: x3 :: x4 :: x5 :: some (wr (some a)) :: L) st sz m k n) : Vw G y R Qf pc (x0 :: x1 :: x2 :: x3 :: x4 :: x5 :: w :: L) (wr (some a) :: st) sz m k n := Vw.astore h (by show 6 < List.length _; simp) hf kk
theorem Vw.inc6 {x0 x1 x2 x3 x4 x5 : Option LW} {d z : Int} {L : List (Option LW)} (h : At y pc (.iinc 6 d) 3 pc') (hz : inR (z + d)) (hf : freeAt (x0 :: x1 :: x2 :: x3 :: x4 :: x5 :: some (wi z) :: L) 6 = true) (kk : Vw G y R Qf pc' (x0 :: x1 :: x2 :: x3 :: x4 :: x5 :: some (wi (z + d)) :: L) st sz m k n) : Vw G y R Qf pc (x0 :: x1 :: x2 :: x3 :: x4 :: x5 :: some (wi z) :: L) st sz m k n := Vw.iinc h rfl hz hf kk
theorem Vw.lst6 {x0 x1 x2 x3 x4 x5 : Option LW} {w v : Option LW} {x : Int64} {L : List (Option LW)} (h : At y pc (.lstore 6) 2 pc') (hf : freeAt (x0 :: x1 :: x2 :: x3 :: x4 :: x5 :: w :: v :: L) 6 = true) (kk : Vw G y R Qf pc' (x0 :: x1 :: x2 :: x3 :: x4 :: x5 :: some (wl x) :: none :: L) st sz m k n) : Vw G y R Qf pc (x0 :: x1 :: x2 :: x3 :: x4 :: x5 :: w :: v :: L) (wl x :: st) sz m k n := Vw.lstore h (by show 6 + 1 < List.length _; simp) hf kk
theorem Vw.ild7 {x0 x1 x2 x3 x4 x5 x6 : Option LW} {z : Int} {L : List (Option LW)} (h : At y pc (.iload 7) 2 pc') (kk : Vw G y R Qf pc' (x0 :: x1 :: x2 :: x3 :: x4 :: x5 :: x6 :: some (wi z) :: L) (wi z :: st) sz m k n) : Vw G y R Qf pc (x0 :: x1 :: x2 :: x3 :: x4 :: x5 :: x6 :: some (wi z) :: L) st sz m k n := Vw.iload h rfl kk
theorem Vw.lld7 {x0 x1 x2 x3 x4 x5 x6 : Option LW} {x : Int64} {L : List (Option LW)} (h : At y pc (.lload 7) 2 pc') (kk : Vw G y R Qf pc' (x0 :: x1 :: x2 :: x3 :: x4 :: x5 :: x6 :: some (wl x) :: L) (wl x :: st) sz m k n) : Vw G y R Qf pc (x0 :: x1 :: x2 :: x3 :: x4 :: x5 :: x6 :: some (wl x) :: L) st sz m k n := Vw.lload h rfl kk
theorem Vw.ald7 {x0 x1 x2 x3 x4 x5 x6 : Option LW} {a : Nat} {L : List (Option LW)} (h : At y pc (.aload 7) 2 pc') (kk : Vw G y R Qf pc' (x0 :: x1 :: x2 :: x3 :: x4 :: x5 :: x6 :: some (wr (some a)) :: L) (wr (some a) :: st) sz m k n) : Vw G y R Qf pc (x0 :: x1 :: x2 :: x3 :: x4 :: x5 :: x6 :: some (wr (some a)) :: L) st sz m k n := Vw.aload h rfl kk
theorem Vw.ist7 {x0 x1 x2 x3 x4 x5 x6 : Option LW} {w : Option LW} {z : Int} {L : List (Option LW)} (h : At y pc (.istore 7) 2 pc') (hf : freeAt (x0 :: x1 :: x2 :: x3 :: x4 :: x5 :: x6 :: w :: L) 7 = true) (kk : Vw G y R Qf pc' (x0 :: x1 :: x2 :: x3 :: x4 :: x5 :: x6 :: some (wi z) :: L) st sz m k n) : Vw G y R Qf pc (x0 :: x1 :: x2 :: x3 :: x4 :: x5 :: x6 :: w :: L) (wi z :: st) sz m k n := Vw.istore h (by show 7 < List.length _; simp) hf kk
theorem Vw.ast7 {x0 x1 x2 x3 x4 x5 x6 : Option LW} {w : Option LW} {a : Nat} {L : List (Option LW)} (h : At y pc (.astore 7) 2 pc') (hf : freeAt (x0 :: x1 :: x2 :: x3 :: x4 :: x5 :: x6 :: w :: L) 7 = true) (kk : Vw G y R Qf pc' (x0 :: x1 :: x2 :: x3 :: x4 :: x5 :: x6 :: some (wr (some a)) :: L) st sz m k n) : Vw G y R Qf pc (x0 :: x1 :: x2 :: x3 :: x4 :: x5 :: x6 :: w :: L) (wr (some a) :: st) sz m k n := Vw.astore h (by show 7 < List.length _; simp) hf kk
theorem Vw.inc7 {x0 x1 x2 x3 x4 x5 x6 : Option LW} {d z : Int} {L : List (Option LW)} (h : At y pc (.iinc 7 d) 3 pc') (hz : inR (z + d)) (hf : freeAt (x0 :: x1 :: x2 :: x3 :: x4 :: x5 :: x6 :: some (wi z) :: L) 7 = true) (kk : Vw G y R Qf pc' (x0 :: x1 :: x2 :: x3 :: x4 :: x5 :: x6 :: some (wi (z + d)) :: L) st sz m k n) : Vw G y R Qf pc (x0 :: x1 :: x2 :: x3 :: x4 :: x5 :: x6 :: some (wi z) :: L) st sz m k n := Vw.iinc h rfl hz hf kk
theorem Vw.lst7 {x0 x1 x2 x3 x4 x5 x6 : Option LW} {w v : Option LW} {x : Int64} {L : List (Option LW)} (h : At y pc (.lstore 7) 2 pc') (hf : freeAt (x0 :: x1 :: x2 :: x3 :: x4 :: x5 :: x6 :: w :: v :: L) 7 = true) (kk : Vw G y R Qf pc' (x0 :: x1 :: x2 :: x3 :: x4 :: x5 :: x6 :: some (wl x) :: none :: L) st sz m k n) : Vw G y R Qf pc (x0 :: x1 :: x2 :: x3 :: x4 :: x5 :: x6 :: w :: v :: L) (wl x :: st) sz m k n := Vw.lstore h (by show 7 + 1 < List.length _; simp) hf kk
theorem Vw.ild8 {x0 x1 x2 x3 x4 x5 x6 x7 : Option LW} {z : Int} {L : List (Option LW)} (h : At y pc (.iload 8) 2 pc') (kk : Vw G y R Qf pc' (x0 :: x1 :: x2 :: x3 :: x4 :: x5 :: x6 :: x7 :: some (wi z) :: L) (wi z :: st) sz m k n) : Vw G y R Qf pc (x0 :: x1 :: x2 :: x3 :: x4 :: x5 :: x6 :: x7 :: some (wi z) :: L) st sz m k n := Vw.iload h rfl kk
theorem Vw.lld8 {x0 x1 x2 x3 x4 x5 x6 x7 : Option LW} {x : Int64} {L : List (Option LW)} (h : At y pc (.lload 8) 2 pc') (kk : Vw G y R Qf pc' (x0 :: x1 :: x2 :: x3 :: x4 :: x5 :: x6 :: x7 :: some (wl x) :: L) (wl x :: st) sz m k n) : Vw G y R Qf pc (x0 :: x1 :: x2 :: x3 :: x4 :: x5 :: x6 :: x7 :: some (wl x) :: L) st sz m k n := Vw.lload h rfl kk
theorem Vw.ald8 {x0 x1 x2 x3 x4 x5 x6 x7 : Option LW} {a : Nat} {L : List (Option LW)} (h : At y pc (.aload 8) 2 pc') (kk : Vw G y R Qf pc' (x0 :: x1 :: x2 :: x3 :: x4 :: x5 :: x6 :: x7 :: some (wr (some a)) :: L) (wr (some a) :: st) sz m k n) : Vw G y R Qf pc (x0 :: x1 :: x2 :: x3 :: x4 :: x5 :: x6 :: x7 :: some (wr (some a)) :: L) st sz m k n := Vw.aload h rfl kk
theorem Vw.ist8 {x0 x1 x2 x3 x4 x5 x6 x7 : Option LW} {w : Option LW} {z : Int} {L : List (Option LW)} (h : At y pc (.istore 8) 2 pc') (hf : freeAt (x0 :: x1 :: x2 :: x3 :: x4 :: x5 :: x6 :: x7 :: w :: L) 8 = true) (kk : Vw G y R Qf pc' (x0 :: x1 :: x2 :: x3 :: x4 :: x5 :: x6 :: x7 :: some (wi z) :: L) st sz m k n) : Vw G y R Qf pc (x0 :: x1 :: x2 :: x3 :: x4 :: x5 :: x6 :: x7 :: w :: L) (wi z :: st) sz m k n := Vw.istore h (by show 8 < List.length _; simp) hf kk
theorem Vw.ast8 {x0 x1 x2 x3 x4 x5 x6 x7 : Option LW} {w : Option LW} {a : Nat} {L : List (Option LW)} (h : At y pc (.astore 8) 2 pc') (hf : freeAt (x0 :: x1 :: x2 :: x3 :: x4 :: x5 :: x6 :: x7 :: w :: L) 8 = true) (kk : Vw G y R Qf pc' (x0 :: x1 :: x2 :: x3 :: x4 :: x5 :: x6 :: x7 :: some (wr (some a)) :: L) st sz m k n) : Vw G y R Qf pc (x0 :: x1 :: x2 :: x3 :: x4 :: x5 :: x6 :: x7 :: w :: L) (wr (some a) :: st) sz m k n := Vw.astore h (by show 8 < List.length _; simp) hf kk
theorem Vw.inc8 {x0 x1 x2 x3 x4 x5 x6 x7 : Option LW} {d z : Int} {L : List (Option LW)} (h : At y pc (.iinc 8 d) 3 pc') (hz : inR (z + d)) (hf : freeAt (x0 :: x1 :: x2 :: x3 :: x4 :: x5 :: x6 :: x7 :: some (wi z) :: L) 8 = true) (kk : Vw G y R Qf pc' (x0 :: x1 :: x2 :: x3 :: x4 :: x5 :: x6 :: x7 :: some (wi (z + d)) :: L) st sz m k n) : Vw G y R Qf pc (x0 :: x1 :: x2 :: x3 :: x4 :: x5 :: x6 :: x7 :: some (wi z) :: L) st sz m k n := Vw.iinc h rfl hz hf kk
theorem Vw.lst8 {x0 x1 x2 x3 x4 x5 x6 x7 : Option LW} {w v : Option LW} {x : Int64} {L : List (Option LW)} (h : At y pc (.lstore 8) 2 pc') (hf : freeAt (x0 :: x1 :: x2 :: x3 :: x4 :: x5 :: x6 :: x7 :: w :: v :: L) 8 = true) (kk : Vw G y R Qf pc' (x0 :: x1 :: x2 :: x3 :: x4 :: x5 :: x6 :: x7 :: some (wl x) :: none :: L) st sz m k n) : Vw G y R Qf pc (x0 :: x1 :: x2 :: x3 :: x4 :: x5 :: x6 :: x7 :: w :: v :: L) (wl x :: st) sz m k n := Vw.lstore h (by show 8 + 1 < List.length _; simp) hf kk
theorem Vw.ild9 {x0 x1 x2 x3 x4 x5 x6 x7 x8 : Option LW} {z : Int} {L : List (Option LW)} (h : At y pc (.iload 9) 2 pc') (kk : Vw G y R Qf pc' (x0 :: x1 :: x2 :: x3 :: x4 :: x5 :: x6 :: x7 :: x8 :: some (wi z) :: L) (wi z :: st) sz m k n) : Vw G y R Qf pc (x0 :: x1 :: x2 :: x3 :: x4 :: x5 :: x6 :: x7 :: x8 :: some (wi z) :: L) st sz m k n := Vw.iload h rfl kk
theorem Vw.ald9 {x0 x1 x2 x3 x4 x5 x6 x7 x8 : Option LW} {a : Nat} {L : List (Option LW)} (h : At y pc (.aload 9) 2 pc') (kk : Vw G y R Qf pc' (x0 :: x1 :: x2 :: x3 :: x4 :: x5 :: x6 :: x7 :: x8 :: some (wr (some a)) :: L) (wr (some a) :: st) sz m k n) : Vw G y R Qf pc (x0 :: x1 :: x2 :: x3 :: x4 :: x5 :: x6 :: x7 :: x8 :: some (wr (some a)) :: L) st sz m k n := Vw.aload h rfl kk
theorem Vw.ist9 {x0 x1 x2 x3 x4 x5 x6 x7 x8 : Option LW} {w : Option LW} {z : Int} {L : List (Option LW)} (h : At y pc (.istore 9) 2 pc') (hf : freeAt (x0 :: x1 :: x2 :: x3 :: x4 :: x5 :: x6 :: x7 :: x8 :: w :: L) 9 = true) (kk : Vw G y R Qf pc' (x0 :: x1 :: x2 :: x3 :: x4 :: x5 :: x6 :: x7 :: x8 :: some (wi z) :: L) st sz m k n) : Vw G y R Qf pc (x0 :: x1 :: x2 :: x3 :: x4 :: x5 :: x6 :: x7 :: x8 :: w :: L) (wi z :: st) sz m k n := Vw.istore h (by show 9 < List.length _; simp) hf kk
theorem Vw.ast9 {x0 x1 x2 x3 x4 x5 x6 x7 x8 : Option LW} {w : Option LW} {a : Nat} {L : List (Option LW)} (h : At y pc (.astore 9) 2 pc') (hf : freeAt (x0 :: x1 :: x2 :: x3 :: x4 :: x5 :: x6 :: x7 :: x8 :: w :: L) 9 = true) (kk : Vw G y R Qf pc' (x0 :: x1 :: x2 :: x3 :: x4 :: x5 :: x6 :: x7 :: x8 :: some (wr (some a)) :: L) st sz m k n) : Vw G y R Qf pc (x0 :: x1 :: x2 :: x3 :: x4 :: x5 :: x6 :: x7 :: x8 :: w :: L) (wr (some a) :: st) sz m k n := Vw.astore h (by show 9 < List.length _; simp) hf kk
theorem Vw.inc9 {x0 x1 x2 x3 x4 x5 x6 x7 x8 : Option LW} {d z : Int} {L : List (Option LW)} (h : At y pc (.iinc 9 d) 3 pc') (hz : inR (z + d)) (hf : freeAt (x0 :: x1 :: x2 :: x3 :: x4 :: x5 :: x6 :: x7 :: x8 :: some (wi z) :: L) 9 = true) (kk : Vw G y R Qf pc' (x0 :: x1 :: x2 :: x3 :: x4 :: x5 :: x6 :: x7 :: x8 :: some (wi (z + d)) :: L) st sz m k n) : Vw G y R Qf pc (x0 :: x1 :: x2 :: x3 :: x4 :: x5 :: x6 :: x7 :: x8 :: some (wi z) :: L) st sz m k n := Vw.iinc h rfl hz hf kk
end
