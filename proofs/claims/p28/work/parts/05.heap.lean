-- rows of V for the heap: fields, arrays, new cells
theorem oneP {D : va_G} {a : Nat} {e : va_E} {H : Heap} (h : va_at D vwCl (a, e) H) : va_P D vwCl [(a, e)] H := by
  intro k q hk
  cases k with
  | zero => cases hk; exact h
  | succ k => cases hk
def FL (own : String) (idx ci j : Nat) (fin : Bool) (ty : FieldType) : Prop := ∃ (C : String) (T : u_T) (N : Nat) (ty0 : Nat → FieldType), vwCl[ci]? = some (C, T, N) ∧ (∀ w ∈ u_ws C T N, w ∈ GW) ∧ Cond.fieldLink own idx (T j).1 (T j).2.1 (T j).2.2.1 ∈ GW ∧ j < N ∧ (T j).2.2.2 = fin ∧
  (∀ k, k < N → parseFieldDescriptor (T k).2.2.1 = some (ty0 k)) ∧ (∀ a, a < N → ∀ b, b < N → a ≠ b → (T a).2.1 ≠ (T b).2.1) ∧ ty0 j = ty ∧ (fin = true → (T j).1 = C)
def NL (own : String) (idx ci N : Nat) (fs : List AV) : Prop := ∃ (C : String) (T : u_T) (ty0 : Nat → FieldType), vwCl[ci]? = some (C, T, N) ∧ (∀ w ∈ u_ws C T N, w ∈ GW) ∧ (∀ k, k < N → parseFieldDescriptor (T k).2.2.1 = some (ty0 k)) ∧
  Cond.classLink own idx C ∈ GW ∧ Cond.instantiable C N ∈ GW ∧ Cond.initialized C ∈ GW ∧ (∀ j, j < N → defaultValue (ty0 j) = vp_V (fs.map toV) j) ∧ (∀ v ∈ fs, wfv v)
section
variable {G : GX} {y : MK} {R : Room} {Qf : QF} {pc pc' : Nat} {L : List (Option AV)} {st : List AV} {sz : Nat} {m : Mem} {k n : Nat}
theorem V.getf {a ci j idx : Nat} {fin : Bool} {ty : FieldType} {fs : List AV} {v : AV} (h : At y pc (.getfield idx) 3 pc') (hf : FL y.1.cls idx ci j fin ty) (hm : m a = obj ci fs) (hv : fs[j]? = some v) (kk : V G y R Qf pc' L (v :: st) sz m k n) : V G y R Qf pc L (.inr (some a) :: st) sz m k n := by
  obtain ⟨hd, rfl⟩ := h
  obtain ⟨C, T, N, ty0, hc, hin, hl, hj, -⟩ := hf
  intro p e s mid args below meth c H locs ls hC hR hS hL hW
  have hx := hC
  obtain ⟨hexec, hb, hml, hr, hlk, hown, hnm, hts, hB⟩ := hx
  have h0 := hR.2.2 a
  rw [hm] at h0
  exact va_get hexec hb hts hin hown hB.1 (oneP h0.2.2) 0 rfl hc j hj (hts _ hl) (fun _ h => h) (v := toV v) (by rw [List.getElem?_map, hv]; rfl) hd
    (kk p e s mid args below meth c H locs ls hC hR hS hL (hW.tl.push (h0.2.1 v (List.mem_of_getElem? hv))))
theorem toV_set (fs : List AV) (j : Nat) (v : AV) : (fs.set j v).map toV = (fs.map toV).set j (toV v) := by
  rw [List.map_set]
theorem wf_set {fs : List AV} (h : ∀ v ∈ fs, wfv v) {j : Nat} {v : AV} (hv : wfv v) : ∀ w ∈ fs.set j v, wfv w := by
  intro w hw
  rcases List.mem_or_eq_of_mem_set hw with h1 | h1
  · exact h w h1
  · rw [h1]; exact hv
theorem V.putf {a ci j idx : Nat} {ty : FieldType} {fs : List AV} {v : AV} (h : At y pc (.putfield idx) 3 pc') (hf : FL y.1.cls idx ci j false ty) (hm : m a = obj ci fs) (hj2 : j < fs.length) (hn : narrow ty (toV v) = toV v) (hfit : fits ty (toV v) = true) (kk : V G y R Qf pc' L st sz (upM m a (obj ci (fs.set j v))) k n) : V G y R Qf pc L (v :: .inr (some a) :: st) sz m k n := by
  obtain ⟨hd, rfl⟩ := h
  obtain ⟨C, T, N, ty0, hc, hin, hl, hj, hfin, hty, hap, hty0, -⟩ := hf
  intro p e s mid args below meth c H locs ls hC hR hS hL hW
  have hx := hC
  obtain ⟨hexec, hb, hml, hr, hlk, hown, hnm, hts, hB⟩ := hx
  have h0 := hR.2.2 a
  rw [hm] at h0
  obtain ⟨hNa, hwf, hat⟩ := h0
  have hap2 := va_apart (own := y.1.cls) hts hin ty0 hty hap hB.1 hc
  obtain ⟨r, h1, cell, q1, q2, q3, q4⟩ := hat
  have hr2 : r = (C, T, N) := Option.some.inj (h1.symm.trans hc)
  subst hr2
  obtain ⟨hSl, hfc, kC, hkC, hkind⟩ := hB.1.1 ci _ hc
  obtain ⟨cf, kf, fi, f, hi, hsl⟩ := hSl j hj
  have hlay := hts _ (hin _ (u_in_lay hj))
  unfold u_lay at hlay
  rw [if_neg (by rw [hfin]; decide)] at hlay
  have hst := (u_facts hfc hkC (u_lays hts hin hj) hi).1
  have h6 := u_store hfc hkC hkind hlay hi (hty j hj) (by rw [hty0]; exact hn) (by rw [hty0]; exact hfit)
  refine W.putK hexec hb (f := f) ⟨hown, hts _ hl, ⟨_, _, _, hi⟩, hst⟩ (by rw [q2]; exact h6) q1 q3 (by rw [hsl]; exact k2_hasslot (q4 j hj)) rfl rfl hd fun H' e1 e2 e3 => ?_
  rw [hsl] at e1 ⊢
  refine kk p e s mid args below meth c H' _ ls hC (hR.set e2 e3 ⟨hNa, wf_set hwf hW.hd, ?_⟩) (hS.put e2 e3 hNa) hL hW.tl.tl
  rw [toV_set]
  exact ⟨_, hc, t_OB.to (V := updV (vp_V (fs.map toV)) j (toV v)) ⟨_, e1, q2, q3, t_set q4 hap2 hj (toV v)⟩ (fun i _ => vp_updV_set (by rw [List.length_map]; exact hj2) (toV v) i)⟩
theorem V.putF {a ci j idx : Nat} {ty : FieldType} {fs : List AV} {v : AV} (h : At y pc (.putfield idx) 3 pc') (hf : FL y.1.cls idx ci j true ty) (hown2 : y.1.cls = rcl ci) (hini : y.1.name = "<init>") (hm : m a = obj ci fs) (hj2 : j < fs.length) (hn : narrow ty (toV v) = toV v) (hfit : fits ty (toV v) = true) (kk : V G y R Qf pc' L st sz (upM m a (obj ci (fs.set j v))) k n) : V G y R Qf pc L (v :: .inr (some a) :: st) sz m k n := by
  obtain ⟨hd, rfl⟩ := h
  obtain ⟨C, T, N, ty0, hc, hin, hl, hj, hfin, hty, hap, hty0, hdc⟩ := hf
  intro p e s mid args below meth c H locs ls hC hR hS hL hW
  have hx := hC
  obtain ⟨hexec, hb, hml, hr, hlk, hown, hnm, hts, hB⟩ := hx
  have h0 := hR.2.2 a
  rw [hm] at h0
  obtain ⟨hNa, hwf, hat⟩ := h0
  have hap2 := va_apart (own := y.1.cls) hts hin ty0 hty hap hB.1 hc
  obtain ⟨r, h1, cell, q1, q2, q3, q4⟩ := hat
  have hr2 : r = (C, T, N) := Option.some.inj (h1.symm.trans hc)
  subst hr2
  obtain ⟨hSl, hfc, kC, hkC, hkind⟩ := hB.1.1 ci _ hc
  obtain ⟨cf, kf, fi, f, hi, hsl⟩ := hSl j hj
  have hlay := hts _ (hin _ (u_in_lay hj))
  unfold u_lay at hlay
  rw [if_pos hfin] at hlay
  have hst := (u_facts hfc hkC (u_lays hts hin hj) hi).1
  have hrc : y.1.cls = C := by rw [hown2]; unfold rcl; rw [hc]
  have hcf : mid.cls = cf := by
    obtain ⟨_, _, c', _, _, _, -, -, hf', -, -, -, hown3, -⟩ := Cond.laysFinal_spec hlay
    have e1 : c' = cf := by have := hi.symm.trans hf'; simp at this; exact this.1.symm
    rw [hdc rfl, ← hrc] at hown3
    rw [← e1]; exact Option.some.inj (hown.symm.trans hown3)
  have h6 := u_fits hfc hkC hkind (Or.inr hlay) hi (hty j hj) (v := toV v) (by rw [hty0]; exact hn) (by rw [hty0]; exact hfit)
  refine W.putFinK hexec hb hown (hts _ hl) hi hst hcf (hnm.trans hini) (by rw [q2]; exact h6) q1 q3 (by rw [hsl]; exact k2_hasslot (q4 j hj)) rfl rfl hd fun H' e1 e2 e3 => ?_
  rw [hsl] at e1 ⊢
  refine kk p e s mid args below meth c H' _ ls hC (hR.set e2 e3 ⟨hNa, wf_set hwf hW.hd, ?_⟩) (hS.put e2 e3 hNa) hL hW.tl.tl
  rw [toV_set]
  exact ⟨_, hc, t_OB.to (V := updV (vp_V (fs.map toV)) j (toV v)) ⟨_, e1, q2, q3, t_set q4 hap2 hj (toV v)⟩ (fun i _ => vp_updV_set (by rw [List.length_map]; exact hj2) (toV v) i)⟩
theorem va_S.grow {A : Nat → Prop} {H0 H H1 : Heap} {locs : List Loc} {z : Nat} (h : va_S A H0 H locs) (hz : H.size = z) (z1 : H1.size = z + 1) (o : ∀ q, q < z → H1[q]? = H[q]?) : va_S A H0 H1 locs :=
  ⟨Nat.le_trans h.1 (by omega), fun x h1 h2 => (o x (by have := h.1; omega)).trans (h.2.1 x h1 h2), h.2.2⟩
theorem V.new {ci N idx : Nat} {fs : List AV} (h : At y pc (.new idx) 3 pc') (hn : NL y.1.cls idx ci N fs) (hr : k + 1 ≤ R.cells ∧ n + N ≤ R.slots) (kk : V G y R Qf pc' L (.inr (some sz) :: st) (sz + 1) (upM m sz (obj ci fs)) (k + 1) (n + N)) : V G y R Qf pc L st sz m k n := by
  obtain ⟨hd, rfl⟩ := h
  obtain ⟨C, T, ty0, hc, hin, hty, hcl, hinst, hini, hdef, hwf⟩ := hn
  intro p e s mid args below meth c H locs ls hC hR hS hL hW
  have hx := hC
  obtain ⟨hexec, hb, hml, hrt, hlk, hown, hnm, hts, hB⟩ := hx
  have hKn := hB.1.1 ci _ hc
  refine W.newcK hexec hb hown (hts _ hcl) (hts _ hinst) (hts _ hini) rfl hd hr.1 hr.2 hKn.2.1 hR.1 fun H1 kC hkC e1 z1 o1 => ?_
  exact kk p e s mid args below meth c H1 locs ls hC (hR.push z1 o1 ⟨hR.2.1, hwf, ⟨_, hc, (u_born ty0 hts hin hKn hkC e1 hty).to hdef⟩⟩) (hS.grow hR.1 z1 o1) hL (hW.push trivial)
theorem V.newi {z : Int} (h : At y pc (.newarray .int) 2 pc') (hz : 0 ≤ z ∧ z < 100000) (hr : k + 1 ≤ R.cells ∧ n + z.toNat ≤ R.slots) (kk : V G y R Qf pc' L (.inr (some sz) :: st) (sz + 1) (upM m sz (iar z.toNat (fun _ => 0))) (k + 1) (n + z.toNat)) : V G y R Qf pc L (.inl z :: st) sz m k n := by
  obtain ⟨hd, rfl⟩ := h
  intro p e s mid args below meth c H locs ls hC hR hS hL hW
  have hx := hC
  obtain ⟨hexec, hb, hml, hrt, hlk, hown, hnm, hts, hB⟩ := hx
  refine va_newaK (atype := .int) hexec hb (hts _ gj_aint) rfl hd rfl (n := Int32.ofInt z) (fun q => by have := (oI_lt (a := z) (b := 0) ⟨by omega, by omega⟩ (by decide)).mp q; omega) (oI_clamp hz.1 (by omega)) (by show z.toNat * 4 ≤ _; omega) hr.1 hr.2 hR.1 fun H1 cA e1 z1 o1 hA hN => ?_
  exact kk p e s mid args below meth c H1 locs ls hC (hR.push z1 o1 ⟨Or.inl hR.2.1, fun i _ _ => ⟨show inR 0 by decide, fun q => by cases q⟩, Or.inl ⟨cA, hA, hN, e1⟩⟩) (hS.grow hR.1 z1 o1) hL (hW.tl.push trivial)
theorem V.newc {z : Int} (h : At y pc (.newarray .char) 2 pc') (hz : 0 ≤ z ∧ z < 100000) (hr : k + 1 ≤ R.cells ∧ n + z.toNat ≤ R.slots) (kk : V G y R Qf pc' L (.inr (some sz) :: st) (sz + 1) (upM m sz (car z.toNat (fun _ => 0))) (k + 1) (n + z.toNat)) : V G y R Qf pc L (.inl z :: st) sz m k n := by
  obtain ⟨hd, rfl⟩ := h
  intro p e s mid args below meth c H locs ls hC hR hS hL hW
  have hx := hC
  obtain ⟨hexec, hb, hml, hrt, hlk, hown, hnm, hts, hB⟩ := hx
  refine va_newaK (atype := .char) hexec hb (hts _ gj_achar) rfl hd rfl (n := Int32.ofInt z) (fun q => by have := (oI_lt (a := z) (b := 0) ⟨by omega, by omega⟩ (by decide)).mp q; omega) (oI_clamp hz.1 (by omega)) (by show z.toNat * 2 ≤ _; omega) hr.1 hr.2 hR.1 fun H1 cA e1 z1 o1 hA hN => ?_
  exact kk p e s mid args below meth c H1 locs ls hC (hR.push z1 o1 ⟨Or.inl hR.2.1, fun i _ _ => ⟨show inR 0 by decide, fun _ => show (0 : Int) ≤ 0 ∧ (0 : Int) < 65536 by decide⟩, Or.inl ⟨cA, hA, hN, e1⟩⟩) (hS.grow hR.1 z1 o1) hL (hW.tl.push trivial)
theorem V.newr {ci idx : Nat} {z : Int} (h : At y pc (.anewarray idx) 3 pc') (hcl : Cond.classLink y.1.cls idx (rcl ci) ∈ GW) (hci : ci = 0 ∨ ci = 2 ∨ ci = 4) (hz : 0 ≤ z ∧ z < 100000) (hr : k + 1 ≤ R.cells ∧ n + z.toNat ≤ R.slots) (kk : V G y R Qf pc' L (.inr (some sz) :: st) (sz + 1) (upM m sz (rar ci z.toNat (fun _ => none))) (k + 1) (n + z.toNat)) : V G y R Qf pc L (.inl z :: st) sz m k n := by
  obtain ⟨hd, rfl⟩ := h
  intro p e s mid args below meth c H locs ls hC hR hS hL hW
  have hx := hC
  obtain ⟨hexec, hb, hml, hrt, hlk, hown, hnm, hts, hB⟩ := hx
  have hover : va_AO (rcl ci) s := by
    obtain ⟨-, -, -, -, -, -, h7, h8, h9⟩ := hB
    rcases hci with rfl | rfl | rfl
    · exact h8
    · exact h7
    · exact h9
  have hcz := oI_clamp hz.1 (show z < 2147483648 by omega)
  refine W.anew hexec hb hown (hts _ hcl) (va_AO.use hover) rfl hd rfl (n := Int32.ofInt z) (fun q => by have := (oI_lt (a := z) (b := 0) ⟨by omega, by omega⟩ (by decide)).mp q; omega) (by rw [hcz]; omega) hr.1 (by rw [hcz]; exact hr.2) fun cA kA comp f1 f2 f3 f4 => ?_
  rw [hcz]
  generalize hH1 : H.push ({ cls := cA, slots := Array.replicate z.toNat .null, vm := .none } : Cell) = H1
  have z1 : H1.size = sz + 1 := by rw [← hH1, Array.size_push, hR.1]
  have e1 : H1[sz]? = some (arrV cA z.toNat (fun _ => .null)) := by rw [← hH1, ← hR.1, Array.getElem?_push_size, ← arrV_new]
  have o1 : ∀ q : Nat, q < sz → H1[q]? = H[q]? := fun q hq => by rw [← hH1, Array.getElem?_push, if_neg (by rw [hR.1]; exact Nat.ne_of_lt hq)]
  rw [hR.1]
  exact kk p e s mid args below meth c H1 locs ls hC (hR.push z1 o1 ⟨hR.2.1, cA, fun N z => ⟨(fun k h => by cases h), kA, f2, comp, f3⟩, ⟨kA, comp, f2, f3, f4, f1⟩, e1⟩) (hS.grow hR.1 z1 o1) hL (hW.tl.push trivial)
theorem V.iald {a nn : Nat} {f : Int → Int} {i : Int} (h : At y pc .iaload 1 pc') (hm : m a = iar nn f) (h0 : 0 ≤ i) (h1 : i < nn) (kk : V G y R Qf pc' L (.inl (f i) :: st) sz m k n) : V G y R Qf pc L (.inl i :: .inr (some a) :: st) sz m k n := by
  obtain ⟨hd, rfl⟩ := h
  intro p e s mid args below meth c H locs ls hC hR hS hL hW
  have wi : inR i := hW.hd
  have ha := hR.2.2 a
  rw [hm] at ha
  obtain ⟨-, g2, cA, g3, g4, g5⟩ := hOK_arr ha (by omega) (by decide)
  have hcl := oI_clamp h0 wi.2
  exact W.iald (v := .int (Int32.ofInt (f i))) hC.1 hC.2.1 g5 (g3 _ _) (fun q => by cases q) (by rw [arrV_size]; exact oI_in h0 h1 wi.2) (by rw [hcl, arrV_read _ _ (by omega), show ((i.toNat : Nat) : Int) = i by omega]) rfl rfl hd
    (kk p e s mid args below meth c H locs ls hC hR hS hL (hW.tl.tl.push (v := .inl (f i)) (g2 i h0 h1).1))
theorem V.fald {a nn : Nat} {f : Int → Int} {i : Int} (h : At y pc .iaload 1 pc') (hm : m a = fiar nn f) (h0 : 0 ≤ i) (h1 : i < nn) (kk : V G y R Qf pc' L (.inl (f i) :: st) sz m k n) : V G y R Qf pc L (.inl i :: .inr (some a) :: st) sz m k n := by
  obtain ⟨hd, rfl⟩ := h
  intro p e s mid args below meth c H locs ls hC hR hS hL hW
  have wi : inR i := hW.hd
  have ha := hR.2.2 a
  rw [hm] at ha
  have g2 := ha.2.1
  obtain ⟨cell, g3, g4, g5, g6, g7⟩ := hOK_frz ha
  have hcl := oI_clamp h0 wi.2
  exact W.iald (v := .int (Int32.ofInt (f i))) hC.1 hC.2.1 g3 g4 g5 (by rw [g6]; exact oI_in h0 h1 wi.2) (by rw [hcl, g7 _ (by omega), show ((i.toNat : Nat) : Int) = i by omega]) rfl rfl hd
    (kk p e s mid args below meth c H locs ls hC hR hS hL (hW.tl.tl.push (v := .inl (f i)) (g2 i h0 h1).1))
theorem V.cald {a nn : Nat} {f : Int → Int} {i : Int} (h : At y pc .caload 1 pc') (hm : m a = car nn f) (h0 : 0 ≤ i) (h1 : i < nn) (kk : V G y R Qf pc' L (.inl (f i) :: st) sz m k n) : V G y R Qf pc L (.inl i :: .inr (some a) :: st) sz m k n := by
  obtain ⟨hd, rfl⟩ := h
  intro p e s mid args below meth c H locs ls hC hR hS hL hW
  have wi : inR i := hW.hd
  have ha := hR.2.2 a
  rw [hm] at ha
  obtain ⟨-, g2, cA, g3, g4, g5⟩ := hOK_arr ha (by omega) (by decide)
  have hcl := oI_clamp h0 wi.2
  exact W.cald (v := .int (Int32.ofInt (f i))) hC.1 hC.2.1 g5 (g3 _ _) (fun q => by cases q) (by rw [arrV_size]; exact oI_in h0 h1 wi.2) (by rw [hcl, arrV_read _ _ (by omega), show ((i.toNat : Nat) : Int) = i by omega]) rfl rfl hd
    (kk p e s mid args below meth c H locs ls hC hR hS hL (hW.tl.tl.push (v := .inl (f i)) (g2 i h0 h1).1))
theorem V.aald {a ci nn : Nat} {g : Int → Option Nat} {i : Int} (h : At y pc .aaload 1 pc') (hm : m a = rar ci nn g) (h0 : 0 ≤ i) (h1 : i < nn) (kk : V G y R Qf pc' L (.inr (g i) :: st) sz m k n) : V G y R Qf pc L (.inl i :: .inr (some a) :: st) sz m k n := by
  obtain ⟨hd, rfl⟩ := h
  intro p e s mid args below meth c H locs ls hC hR hS hL hW
  have wi : inR i := hW.hd
  have ha := hR.2.2 a
  rw [hm] at ha
  obtain ⟨-, cA, g3, g4, g5⟩ := ha
  have hcl := oI_clamp h0 wi.2
  have e1 : toV (.inr (g i)) = va_rf (g i) := by cases g i <;> rfl
  refine W.aald (v := va_rf (g i)) (ty := .object (rcl ci)) hC.1 hC.2.1 g5 (g3 _ _) rfl (fun q => by cases q) (by rw [arrV_size]; exact oI_in h0 h1 wi.2) (by rw [hcl, arrV_read _ _ (by omega), show ((i.toNat : Nat) : Int) = i by omega]) rfl rfl hd ?_
  rw [← e1]
  exact kk p e s mid args below meth c H locs ls hC hR hS hL (hW.tl.tl.push (v := .inr (g i)) trivial)
theorem arr_put {cA : ClassId} {nn : Nat} {f : Int → Int} {i x : Int} (h0 : 0 ≤ i) : arrV cA nn (updV (fun j : Nat => .int (Int32.ofInt (f (j : Int)))) i.toNat (.int (Int32.ofInt x))) = arrV cA nn (fun j : Nat => .int (Int32.ofInt (upI f i x (j : Int)))) := by
  congr 1
  funext j
  unfold updV upI
  by_cases hj : j = i.toNat
  · rw [if_pos hj, if_pos (by omega)]
  · rw [if_neg hj, if_neg (by omega)]
theorem V.iast {a nn : Nat} {f : Int → Int} {i x : Int} (h : At y pc .iastore 1 pc') (hm : m a = iar nn f) (h0 : 0 ≤ i) (h1 : i < nn) (kk : V G y R Qf pc' L st sz (upM m a (iar nn (upI f i x))) k n) : V G y R Qf pc L (.inl x :: .inl i :: .inr (some a) :: st) sz m k n := by
  obtain ⟨hd, rfl⟩ := h
  intro p e s mid args below meth c H locs ls hC hR hS hL hW
  have wx : inR x := hW.hd
  have wi : inR i := hW.tl.hd
  have ha := hR.2.2 a
  rw [hm] at ha
  obtain ⟨g1, g2, cA, g3, g4, g5⟩ := hOK_arr ha (by omega) (by decide)
  have hN : G.2.2.1 ≤ a := by rcases g1 with q | q | q <;> omega
  have hcl := oI_clamp h0 wi.2
  refine W.iast hC.1 hC.2.1 g5 (g3 _ _) (fun q => by cases q) (by rw [arrV_size]; exact oI_in h0 h1 wi.2) rfl rfl hd fun H' e1 e2 e3 => ?_
  rw [hcl, arrV_store, arr_put h0] at e1
  refine kk p e s mid args below meth c H' _ ls hC (hR.set e2 e3 ⟨Or.inl hN, fun j j0 j1 => ⟨?_, fun q => by cases q⟩, Or.inl ⟨cA, g3, g4, e1⟩⟩) (hS.put e2 e3 hN) hL hW.tl.tl.tl
  by_cases hj : j = i
  · subst hj
    rw [upI_s]
    exact wx
  · rw [upI_n hj]
    exact (g2 j j0 j1).1
theorem V.cast {a nn : Nat} {f : Int → Int} {i x : Int} (h : At y pc .castore 1 pc') (hm : m a = car nn f) (h0 : 0 ≤ i) (h1 : i < nn) (x0 : 0 ≤ x) (x1 : x < 65536) (kk : V G y R Qf pc' L st sz (upM m a (car nn (upI f i x))) k n) : V G y R Qf pc L (.inl x :: .inl i :: .inr (some a) :: st) sz m k n := by
  obtain ⟨hd, rfl⟩ := h
  intro p e s mid args below meth c H locs ls hC hR hS hL hW
  have wx : inR x := hW.hd
  have wi : inR i := hW.tl.hd
  have ha := hR.2.2 a
  rw [hm] at ha
  obtain ⟨g1, g2, cA, g3, g4, g5⟩ := hOK_arr ha (by omega) (by decide)
  have hN : G.2.2.1 ≤ a := by rcases g1 with q | q | q <;> omega
  have hcl := oI_clamp h0 wi.2
  have en : narrow .char (.int (Int32.ofInt x)) = .int (Int32.ofInt x) := by
    have e0 : Int32.ofInt x = nI x.toNat := by
      show _ = Int32.ofNat _
      rw [← Int32.ofInt_eq_ofNat]
      congr 1
      omega
    rw [e0]
    exact (pk_charN (by omega)).1
  refine W.cast hC.1 hC.2.1 g5 (g3 _ _) (fun q => by cases q) (by rw [arrV_size]; exact oI_in h0 h1 wi.2) rfl rfl hd fun H' e1 e2 e3 => ?_
  rw [hcl, arrV_store, en, arr_put h0] at e1
  refine kk p e s mid args below meth c H' _ ls hC (hR.set e2 e3 ⟨Or.inl hN, fun j j0 j1 => ?_, Or.inl ⟨cA, g3, g4, e1⟩⟩) (hS.put e2 e3 hN) hL hW.tl.tl.tl
  by_cases hj : j = i
  · subst hj
    rw [upI_s]
    exact ⟨wx, fun _ => ⟨x0, x1⟩⟩
  · rw [upI_n hj]
    exact g2 j j0 j1
theorem arr_putq {cA : ClassId} {nn : Nat} {g : Int → Option Nat} {i : Int} {r : Option Nat} (h0 : 0 ≤ i) : arrV cA nn (updV (fun j : Nat => va_rf (g (j : Int))) i.toNat (va_rf r)) = arrV cA nn (fun j : Nat => va_rf (upI g i r (j : Int))) := by
  congr 1
  funext j
  unfold updV upI
  by_cases hj : j = i.toNat
  · rw [if_pos hj, if_pos (by omega)]
  · rw [if_neg hj, if_neg (by omega)]
theorem V.aast {a ci nn : Nat} {g : Int → Option Nat} {i : Int} {r : Option Nat} (h : At y pc .aastore 1 pc') (hm : m a = rar ci nn g) (hci : ci < 7) (h0 : 0 ≤ i) (h1 : i < nn) (hv : ∀ v : Nat, r = some v → ∃ fs, m v = obj ci fs) (kk : V G y R Qf pc' L st sz (upM m a (rar ci nn (upI g i r))) k n) : V G y R Qf pc L (.inr r :: .inl i :: .inr (some a) :: st) sz m k n := by
  obtain ⟨hd, rfl⟩ := h
  intro p e s mid args below meth c H locs ls hC hR hS hL hW
  have wi : inR i := hW.tl.hd
  have ha := hR.2.2 a
  rw [hm] at ha
  obtain ⟨hN, cA, g3, g4, g5⟩ := ha
  have hcl := oI_clamp h0 wi.2
  have hin := oI_in h0 h1 wi.2
  cases r with
  | none =>
    refine va_WaastN (C := rcl ci) hC.1 hC.2.1 g5 (g3 _ _) (fun h => by cases h) (by rw [arrV_size]; exact hin) rfl rfl hd fun H' e1 e2 e3 => ?_
    rw [hcl, arrV_store, show (Value.null) = va_rf none from rfl, arr_putq h0] at e1
    exact kk p e s mid args below meth c H' _ ls hC (hR.set e2 e3 ⟨hN, cA, g3, g4, e1⟩) (hS.put e2 e3 hN) hL hW.tl.tl.tl
  | some v =>
    obtain ⟨fs, hmv⟩ := hv v rfl
    have hv2 := hR.2.2 v
    rw [hmv] at hv2
    obtain ⟨-, -, r0, hr0, cellV, q1, q2, q3, -⟩ := hv2
    have hcls := (hC.2.2.2.2.2.2.2.2.1.1 ci r0 hr0).2
    obtain ⟨kA, comp, k1, k2, k3, k4⟩ := g4
    have hrc : rcl ci = r0.1 := by unfold rcl; rw [hr0]
    have hcomp : comp = G.2.1.1 ci := by
      rw [hrc] at k3
      exact Option.some.inj (k3.symm.trans hcls.1)
    subst hcomp
    obtain ⟨kC, hkC, -⟩ := hcls.2
    refine W.aast hC.1 hC.2.1 g5 (fun q h => by cases h) (fun h => by cases h) k1 k2 rfl hkC ⟨fun q => hin (Or.inl q), by rw [arrV_size]; exact Nat.not_le.mp fun q => hin (Or.inr q)⟩ q1 (fun q h => by rw [q3] at h; cases h) (by rw [q2]; exact hkC) (by rw [q2]; exact va_assign hcls) rfl rfl hd fun H' e1 e2 e3 => ?_
    rw [hcl, arrV_store, show (Value.ref v) = va_rf (some v) from rfl, arr_putq h0] at e1
    exact kk p e s mid args below meth c H' _ ls hC (hR.set e2 e3 ⟨hN, cA, g3, ⟨kA, _, k1, k2, k3, k4⟩, e1⟩) (hS.put e2 e3 hN) hL hW.tl.tl.tl
theorem V.alenT {a t nn : Nat} {f : Int → Int} (h : At y pc .arraylength 1 pc') (hm : m a = .inr (.inl (t, nn, f))) (hz : inR nn) (kk : V G y R Qf pc' L (.inl nn :: st) sz m k n) : V G y R Qf pc L (.inr (some a) :: st) sz m k n := by
  obtain ⟨hd, rfl⟩ := h
  intro p e s mid args below meth c H locs ls hC hR hS hL hW
  have ha := hR.2.2 a
  rw [hm] at ha
  obtain ⟨cell, g3, g4, g5, g6, g7⟩ := hOK_frz ha
  exact W.alen (n := Int32.ofInt nn) hC.1 hC.2.1 g3 g4 (by rw [g6, Int32.ofInt_eq_ofNat] <;> rfl) rfl rfl hd (kk p e s mid args below meth c H locs ls hC hR hS hL (hW.tl.push (v := .inl nn) hz))
theorem V.alen {a nn : Nat} {f : Int → Int} (h : At y pc .arraylength 1 pc') (hm : m a = iar nn f) (hz : inR nn) (kk : V G y R Qf pc' L (.inl nn :: st) sz m k n) : V G y R Qf pc L (.inr (some a) :: st) sz m k n := V.alenT h hm hz kk
theorem V.alenF {a nn : Nat} {f : Int → Int} (h : At y pc .arraylength 1 pc') (hm : m a = fiar nn f) (hz : inR nn) (kk : V G y R Qf pc' L (.inl nn :: st) sz m k n) : V G y R Qf pc L (.inr (some a) :: st) sz m k n := V.alenT h hm hz kk
theorem V.alenC {a nn : Nat} {f : Int → Int} (h : At y pc .arraylength 1 pc') (hm : m a = car nn f) (hz : inR nn) (kk : V G y R Qf pc' L (.inl nn :: st) sz m k n) : V G y R Qf pc L (.inr (some a) :: st) sz m k n := V.alenT h hm hz kk
theorem V.alenR {a ci nn : Nat} {g : Int → Option Nat} (h : At y pc .arraylength 1 pc') (hm : m a = rar ci nn g) (hz : inR nn) (kk : V G y R Qf pc' L (.inl nn :: st) sz m k n) : V G y R Qf pc L (.inr (some a) :: st) sz m k n := by
  obtain ⟨hd, rfl⟩ := h
  intro p e s mid args below meth c H locs ls hC hR hS hL hW
  have ha := hR.2.2 a
  rw [hm] at ha
  obtain ⟨-, cA, g3, g4, g5⟩ := ha
  exact W.alen (n := Int32.ofInt nn) hC.1 hC.2.1 g5 (g3 _ _) (by rw [arrV_size, Int32.ofInt_eq_ofNat] <;> rfl) rfl rfl hd (kk p e s mid args below meth c H locs ls hC hR hS hL (hW.tl.push (v := .inl nn) hz))
theorem V.gets {idx : Nat} (h : At y pc (.getstatic idx) 3 pc') (ho : y.1.cls = RX0) (hi : idx = 42) (kk : V G y R Qf pc' L (.inr (some G.2.2.2) :: st) sz m k n) : V G y R Qf pc L st sz m k n := by
  obtain ⟨hd, rfl⟩ := h
  subst hi
  intro p e s mid args below meth c H locs ls hC hR hS hL hW
  have hx := hC
  obtain ⟨hexec, hb, hml, hrt, hlk, hown, hnm, hts, hB⟩ := hx
  rw [ho] at hown
  exact va_getsN hexec hb hB.2.1 hS hown (va_Nw.use rfl hB.2.2.1) (fun _ h => h) hd (kk p e s mid args below meth c H locs ls hC hR hS hL (hW.push trivial))
theorem cat_sum : ∀ st : List AV, ((st.map toV).map fun v => v.category).sum = st.length
  | [] => rfl
  | v :: st => by
    simp only [List.map_cons, List.sum_cons, List.length_cons, toV_cat]
    rw [cat_sum st]
    omega
theorem V.mmax {idx : Nat} {a b : Int} (h : At y pc (.invokestatic idx) 3 pc') (hl : Cond.methodLink y.1.cls idx Lib.Math.max.name ∈ GW) (hi : Cond.initialized "java/lang/Math" ∈ GW) (hr : 1 ≤ R.frames ∧ st.length + 13 ≤ R.locals ∧ k ≤ R.cells ∧ n ≤ R.slots) (kk : V G y R Qf pc' L (.inl (max a b) :: st) sz m k n) : V G y R Qf pc L (.inl b :: .inl a :: st) sz m k n := by
  obtain ⟨hd, rfl⟩ := h
  intro p e s mid args below meth c H locs ls hC hR hS hL hW
  have hx := hC
  obtain ⟨hexec, hb, hml, hrt, hlk, hown, hnm, hts, hB⟩ := hx
  have wb : inR b := hW.hd
  have wa : inR a := hW.tl.hd
  refine va_mmax hexec hb (hml.trans hL.2.1.symm) hown (hts _ hl) (hts _ gj_maxS) (hts _ hi) (hts _ gj_maxC) hr.1 (by rw [cat_sum]; exact hr.2.1) hr.2.2.1 hr.2.2.2 hd ?_
  have e1 : (if Int32.ofInt a < Int32.ofInt b then Int32.ofInt b else Int32.ofInt a) = Int32.ofInt (max a b) := by
    by_cases q : a < b
    · rw [if_pos ((oI_lt wa wb).mpr q)]
      congr 1
      omega
    · rw [if_neg (fun z => q ((oI_lt wa wb).mp z))]
      congr 1
      omega
  rw [e1]
  exact kk p e s mid args below meth c H locs ls hC hR hS hL (hW.tl.tl.push (v := .inl (max a b)) (by rcases Int.le_total a b with q | q <;> first | (rw [Int.max_eq_right q]; exact wb) | (rw [Int.max_eq_left q]; exact wa)))
theorem V.mmin {idx : Nat} {a b : Int} (h : At y pc (.invokestatic idx) 3 pc') (hl : Cond.methodLink y.1.cls idx Lib.Math.min.name ∈ GW) (hi : Cond.initialized "java/lang/Math" ∈ GW) (hr : 1 ≤ R.frames ∧ st.length + 13 ≤ R.locals ∧ k ≤ R.cells ∧ n ≤ R.slots) (kk : V G y R Qf pc' L (.inl (min a b) :: st) sz m k n) : V G y R Qf pc L (.inl b :: .inl a :: st) sz m k n := by
  obtain ⟨hd, rfl⟩ := h
  intro p e s mid args below meth c H locs ls hC hR hS hL hW
  have hx := hC
  obtain ⟨hexec, hb, hml, hrt, hlk, hown, hnm, hts, hB⟩ := hx
  have wb : inR b := hW.hd
  have wa : inR a := hW.tl.hd
  refine va_mmin hexec hb (hml.trans hL.2.1.symm) hown (hts _ hl) (hts _ gj_minS) (hts _ hi) (hts _ gj_minC) hr.1 (by rw [cat_sum]; exact hr.2.1) hr.2.2.1 hr.2.2.2 hd ?_
  have e1 : (if Int32.ofInt b < Int32.ofInt a then Int32.ofInt b else Int32.ofInt a) = Int32.ofInt (min a b) := by
    by_cases q : b < a
    · rw [if_pos ((oI_lt wb wa).mpr q)]
      congr 1
      omega
    · rw [if_neg (fun z => q ((oI_lt wb wa).mp z))]
      congr 1
      omega
  rw [e1]
  exact kk p e s mid args below meth c H locs ls hC hR hS hL (hW.tl.tl.push (v := .inl (min a b)) (by rcases Int.le_total a b with q | q <;> first | (rw [Int.min_eq_left q]; exact wa) | (rw [Int.min_eq_right q]; exact wb)))
end
