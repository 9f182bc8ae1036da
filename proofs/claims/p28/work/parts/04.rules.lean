theorem wcons {v : AV} {st : List AV} (hv : wfv v) (h : ∀ w ∈ st, wfv w) : ∀ w ∈ v :: st, wfv w := List.forall_mem_cons.mpr ⟨hv, h⟩
theorem WS.tl {L : List (Option AV)} {v : AV} {st : List AV} (h : WS L (v :: st)) : WS L st := ⟨h.1, fun w hw => h.2 w (List.mem_cons_of_mem _ hw)⟩
theorem WS.hd {L : List (Option AV)} {v : AV} {st : List AV} (h : WS L (v :: st)) : wfv v := h.2 v List.mem_cons_self
theorem WS.push {L : List (Option AV)} {v : AV} {st : List AV} (hv : wfv v) (h : WS L st) : WS L (v :: st) := ⟨h.1, wcons hv h.2⟩
theorem WS.set {L : List (Option AV)} {i : Nat} {v : AV} {st : List AV} (hv : wfv v) (h : WS L st) : WS (L.set i (some v)) st := by
  refine ⟨fun j w hj => ?_, h.2⟩
  by_cases hi : j = i
  · subst hi
    rw [List.getElem?_set_self'] at hj
    cases hL : L[j]? with
    | none => rw [hL] at hj; cases hj
    | some x =>
      rw [hL] at hj
      simp at hj
      rw [← hj]
      exact hv
  · rw [List.getElem?_set_ne (Ne.symm hi)] at hj
    exact h.1 j w hj
theorem inR_toInt {z : Int} (h : inR z) : (Int32.ofInt z).toInt = z := Int32.toInt_ofInt_of_le (by omega) (by omega)
theorem oI_lt {a b : Int} (ha : inR a) (hb : inR b) : Int32.ofInt a < Int32.ofInt b ↔ a < b := by rw [Int32.lt_iff_toInt_lt, inR_toInt ha, inR_toInt hb]
theorem oI_le {a b : Int} (ha : inR a) (hb : inR b) : Int32.ofInt a ≤ Int32.ofInt b ↔ a ≤ b := by rw [Int32.le_iff_toInt_le, inR_toInt ha, inR_toInt hb]
theorem oI_eq {a b : Int} (ha : inR a) (hb : inR b) : Int32.ofInt a = Int32.ofInt b ↔ a = b := ⟨fun h => by rw [← inR_toInt ha, ← inR_toInt hb, h], fun h => by rw [h]⟩
theorem oI_clamp {z : Int} (h0 : 0 ≤ z) (h1 : z < 2147483648) : (Int32.ofInt z).toNatClampNeg = z.toNat := Int32.toNatClampNeg_ofInt_of_le (by omega) (by omega)
theorem oI_in {z : Int} {n : Nat} (h0 : 0 ≤ z) (h1 : z < n) (h2 : z < 2147483648) : vp_in (Int32.ofInt z) n := by
  rw [vp_in_iff, inR_toInt ⟨by omega, h2⟩]
  exact ⟨h0, h1⟩
section
variable {G : GX} {y : MK} {R : Room} {Qf : QF} {pc pc' : Nat} {L : List (Option AV)} {st : List AV} {sz : Nat} {m : Mem} {k n : Nat}
theorem V.iconst {z : Int} (h : At y pc (.iconst z) 1 pc') (hz : inR z) (kk : V G y R Qf pc' L (.inl z :: st) sz m k n) : V G y R Qf pc L st sz m k n := by
  obtain ⟨hd, rfl⟩ := h
  intro p e s mid args below meth c H locs ls hC hR hS hL hW
  exact lv_iconst hC.1 hC.2.1 hd rfl (kk p e s mid args below meth c H locs ls hC hR hS hL (hW.push hz))
theorem V.bipush {z : Int} (h : At y pc (.bipush z) 2 pc') (hv : (Int8.ofInt z).toInt32 = Int32.ofInt z) (hz : inR z) (kk : V G y R Qf pc' L (.inl z :: st) sz m k n) : V G y R Qf pc L st sz m k n := by
  obtain ⟨hd, rfl⟩ := h
  intro p e s mid args below meth c H locs ls hC hR hS hL hW
  exact lv_bipush hC.1 hC.2.1 hd hv (kk p e s mid args below meth c H locs ls hC hR hS hL (hW.push hz))
theorem V.sipush {z : Int} (h : At y pc (.sipush z) 3 pc') (hv : (Int16.ofInt z).toInt32 = Int32.ofInt z) (hz : inR z) (kk : V G y R Qf pc' L (.inl z :: st) sz m k n) : V G y R Qf pc L st sz m k n := by
  obtain ⟨hd, rfl⟩ := h
  intro p e s mid args below meth c H locs ls hC hR hS hL hW
  exact lv_sipush hC.1 hC.2.1 hd hv (kk p e s mid args below meth c H locs ls hC hR hS hL (hW.push hz))
theorem V.null (h : At y pc (.aconst_null) 1 pc') (kk : V G y R Qf pc' L (.inr none :: st) sz m k n) : V G y R Qf pc L st sz m k n := by
  obtain ⟨hd, rfl⟩ := h
  intro p e s mid args below meth c H locs ls hC hR hS hL hW
  exact lv_null hC.1 hC.2.1 hd (kk p e s mid args below meth c H locs ls hC hR hS hL (hW.push trivial))
theorem V.iload_n {i : Fin 4} {z : Int} (h : At y pc (.iload_n i) 1 pc') (hi : L[(i : Nat)]? = some (some (.inl z))) (kk : V G y R Qf pc' L (.inl z :: st) sz m k n) : V G y R Qf pc L st sz m k n := by
  obtain ⟨hd, rfl⟩ := h
  intro p e s mid args below meth c H locs ls hC hR hS hL hW
  exact lv_iload_n hC.1 hC.2.1 hd rfl (hL.at hi) (kk p e s mid args below meth c H locs ls hC hR hS hL (hW.push (hW.1 _ _ hi)))
theorem V.iload {i : Nat} {z : Int} (h : At y pc (.iload i) 2 pc') (hi : L[i]? = some (some (.inl z))) (kk : V G y R Qf pc' L (.inl z :: st) sz m k n) : V G y R Qf pc L st sz m k n := by
  obtain ⟨hd, rfl⟩ := h
  intro p e s mid args below meth c H locs ls hC hR hS hL hW
  exact lv_iload hC.1 hC.2.1 hd (hL.at hi) (kk p e s mid args below meth c H locs ls hC hR hS hL (hW.push (hW.1 _ _ hi)))
theorem V.aload_n {i : Fin 4} {r : Option Nat} (h : At y pc (.aload_n i) 1 pc') (hi : L[(i : Nat)]? = some (some (.inr r))) (kk : V G y R Qf pc' L (.inr r :: st) sz m k n) : V G y R Qf pc L st sz m k n := by
  obtain ⟨hd, rfl⟩ := h
  intro p e s mid args below meth c H locs ls hC hR hS hL hW
  cases r with
  | none => exact lv_aload_nN hC.1 hC.2.1 hd rfl (hL.at hi) (kk p e s mid args below meth c H locs ls hC hR hS hL (hW.push trivial))
  | some a => exact lv_aload_n hC.1 hC.2.1 hd rfl (hL.at hi) (kk p e s mid args below meth c H locs ls hC hR hS hL (hW.push trivial))  
theorem V.aload {i : Nat} {r : Option Nat} (h : At y pc (.aload i) 2 pc') (hi : L[i]? = some (some (.inr r))) (kk : V G y R Qf pc' L (.inr r :: st) sz m k n) : V G y R Qf pc L st sz m k n := by
  obtain ⟨hd, rfl⟩ := h
  intro p e s mid args below meth c H locs ls hC hR hS hL hW
  cases r with
  | none => exact lv_aloadN hC.1 hC.2.1 hd (hL.at hi) (kk p e s mid args below meth c H locs ls hC hR hS hL (hW.push trivial))
  | some a => exact lv_aload hC.1 hC.2.1 hd (hL.at hi) (kk p e s mid args below meth c H locs ls hC hR hS hL (hW.push trivial))  
theorem V.istore_n {i : Fin 4} {z : Int} (h : At y pc (.istore_n i) 1 pc') (hi : (i : Nat) < L.length) (kk : V G y R Qf pc' (L.set (i : Nat) (some (.inl z))) st sz m k n) : V G y R Qf pc L (.inl z :: st) sz m k n := by
  obtain ⟨hd, rfl⟩ := h
  intro p e s mid args below meth c H locs ls hC hR hS hL hW
  exact lv_istore_n hC.1 hC.2.1 hd rfl hL.2 (by rw [← hL.1]; exact hi) rfl (fun ls' hl' => kk p e s mid args below meth c H locs ls' hC hR hS (hL.set hl') (hW.tl.set hW.hd))
theorem V.istore {i : Nat} {z : Int} (h : At y pc (.istore i) 2 pc') (hi : i < L.length) (kk : V G y R Qf pc' (L.set i (some (.inl z))) st sz m k n) : V G y R Qf pc L (.inl z :: st) sz m k n := by
  obtain ⟨hd, rfl⟩ := h
  intro p e s mid args below meth c H locs ls hC hR hS hL hW
  exact lv_istore hC.1 hC.2.1 hd hL.2 (by rw [← hL.1]; exact hi) rfl (fun ls' hl' => kk p e s mid args below meth c H locs ls' hC hR hS (hL.set hl') (hW.tl.set hW.hd))
theorem V.astore_n {i : Fin 4} {r : Option Nat} (h : At y pc (.astore_n i) 1 pc') (hi : (i : Nat) < L.length) (kk : V G y R Qf pc' (L.set (i : Nat) (some (.inr r))) st sz m k n) : V G y R Qf pc L (.inr r :: st) sz m k n := by
  obtain ⟨hd, rfl⟩ := h
  intro p e s mid args below meth c H locs ls hC hR hS hL hW
  cases r with
  | none => exact lv_astore_nN hC.1 hC.2.1 hd rfl hL.2 (by rw [← hL.1]; exact hi) rfl (fun ls' hl' => kk p e s mid args below meth c H locs ls' hC hR hS (hL.set hl') (hW.tl.set hW.hd))
  | some a => exact lv_astore_n hC.1 hC.2.1 hd rfl hL.2 (by rw [← hL.1]; exact hi) rfl (fun ls' hl' => kk p e s mid args below meth c H locs ls' hC hR hS (hL.set hl') (hW.tl.set hW.hd))  
theorem V.astore {i : Nat} {r : Option Nat} (h : At y pc (.astore i) 2 pc') (hi : i < L.length) (kk : V G y R Qf pc' (L.set i (some (.inr r))) st sz m k n) : V G y R Qf pc L (.inr r :: st) sz m k n := by
  obtain ⟨hd, rfl⟩ := h
  intro p e s mid args below meth c H locs ls hC hR hS hL hW
  cases r with
  | none => exact lv_astoreN hC.1 hC.2.1 hd hL.2 (by rw [← hL.1]; exact hi) rfl (fun ls' hl' => kk p e s mid args below meth c H locs ls' hC hR hS (hL.set hl') (hW.tl.set hW.hd))
  | some a => exact lv_astore hC.1 hC.2.1 hd hL.2 (by rw [← hL.1]; exact hi) rfl (fun ls' hl' => kk p e s mid args below meth c H locs ls' hC hR hS (hL.set hl') (hW.tl.set hW.hd))  
theorem V.iinc {i : Nat} {d z : Int} (h : At y pc (.iinc i d) 3 pc') (hi : L[i]? = some (some (.inl z))) (hz : inR (z + d)) (kk : V G y R Qf pc' (L.set i (some (.inl (z + d)))) st sz m k n) : V G y R Qf pc L st sz m k n := by
  obtain ⟨hd, rfl⟩ := h
  intro p e s mid args below meth c H locs ls hC hR hS hL hW
  obtain ⟨k0, hk0⟩ := List.getElem?_of_mem ((mem_lvl L 0).mpr ⟨i, _, hi, rfl⟩)
  rw [Nat.zero_add] at hk0
  have hlt : i < L.length := (List.getElem?_eq_some_iff.mp hi).1
  refine lv_iinc hC.1 hC.2.1 hd hL.2 hk0 (v := Int32.ofInt (z + d)) (Int32.ofInt_add z d).symm (by rw [← hL.1]; exact hlt) rfl (fun ls' hl' => ?_)
  exact kk p e s mid args below meth c H locs ls' hC hR hS (hL.set (v := .inl (z + d)) hl') (hW.set hz)
theorem V.iadd {a b : Int} (h : At y pc .iadd 1 pc') (hz : inR (a + b)) (kk : V G y R Qf pc' L (.inl (a + b) :: st) sz m k n) : V G y R Qf pc L (.inl b :: .inl a :: st) sz m k n := by
  obtain ⟨hd, rfl⟩ := h
  intro p e s mid args below meth c H locs ls hC hR hS hL hW
  refine lv_iadd hC.1 hC.2.1 hd ?_
  rw [← Int32.ofInt_add]
  exact kk p e s mid args below meth c H locs ls hC hR hS hL (hW.tl.tl.push (v := .inl (a + b)) hz)
theorem V.isub {a b : Int} (h : At y pc .isub 1 pc') (hz : inR (a - b)) (kk : V G y R Qf pc' L (.inl (a - b) :: st) sz m k n) : V G y R Qf pc L (.inl b :: .inl a :: st) sz m k n := by
  obtain ⟨hd, rfl⟩ := h
  intro p e s mid args below meth c H locs ls hC hR hS hL hW
  refine lv_isub hC.1 hC.2.1 hd ?_
  rw [← Int32.ofInt_sub]
  exact kk p e s mid args below meth c H locs ls hC hR hS hL (hW.tl.tl.push (v := .inl (a - b)) hz)
theorem V.imul {a b : Int} (h : At y pc .imul 1 pc') (hz : inR (a * b)) (kk : V G y R Qf pc' L (.inl (a * b) :: st) sz m k n) : V G y R Qf pc L (.inl b :: .inl a :: st) sz m k n := by
  obtain ⟨hd, rfl⟩ := h
  intro p e s mid args below meth c H locs ls hC hR hS hL hW
  refine lv_imul hC.1 hC.2.1 hd ?_
  rw [← Int32.ofInt_mul]
  exact kk p e s mid args below meth c H locs ls hC hR hS hL (hW.tl.tl.push (v := .inl (a * b)) hz)
theorem V.irem {a b : Int} (h : At y pc .irem 1 pc') (ha : 0 ≤ a) (hb : 0 < b) (kk : V G y R Qf pc' L (.inl (a % b) :: st) sz m k n) : V G y R Qf pc L (.inl b :: .inl a :: st) sz m k n := by
  obtain ⟨hd, rfl⟩ := h
  intro p e s mid args below meth c H locs ls hC hR hS hL hW
  have wb : inR b := hW.hd
  have wa : inR a := hW.tl.hd
  have h1 := Int.emod_nonneg a (show b ≠ 0 by omega)
  have h2 := Int.emod_lt_of_pos a hb
  have h3 := Int.mul_ediv_add_emod a b
  have hq0 : 0 ≤ a / b := Int.ediv_nonneg ha (by omega)
  have hq1 : a / b ≤ a := Int.ediv_le_self b ha
  refine lv_irem hC.1 hC.2.1 hd (fun q => ?_) ?_
  · have q2 := (oI_eq wb (show inR 0 by decide)).mp q
    omega
  · have e1 : Int32.ofInt a / Int32.ofInt b = Int32.ofInt (a / b) := by
      apply Int32.toInt_inj.mp
      rw [Int32.toInt_div_of_ne_right _ _ (fun q => by have q2 := (oI_eq wb (show inR (-1) by decide)).mp q; omega), inR_toInt wa, inR_toInt wb, inR_toInt ⟨by omega, by omega⟩, Int.tdiv_eq_ediv_of_nonneg ha]
    have e2 : Int32.ofInt a - Int32.ofInt a / Int32.ofInt b * Int32.ofInt b = Int32.ofInt (a % b) := by
      rw [e1, ← Int32.ofInt_mul, ← Int32.ofInt_sub]
      congr 1
      have : a / b * b = b * (a / b) := Int.mul_comm _ _
      omega
    rw [e2]
    exact kk p e s mid args below meth c H locs ls hC hR hS hL (hW.tl.tl.push (v := .inl (a % b)) ⟨by omega, by omega⟩)
theorem V.i2c {a : Int} (h : At y pc .i2c 1 pc') (kk : V G y R Qf pc' L (.inl (a % 65536) :: st) sz m k n) : V G y R Qf pc L (.inl a :: st) sz m k n := by
  obtain ⟨hd, rfl⟩ := h
  intro p e s mid args below meth c H locs ls hC hR hS hL hW
  have wa : inR a := hW.hd
  have e1 : ((Int32.ofInt a).toUInt32 % 65536).toInt32 = Int32.ofInt (a % 65536) := by
    rw [pk_char]
    show Int32.ofNat _ = _
    rw [← Int32.ofInt_eq_ofNat]
    have h1 : (Int32.ofInt a).toBitVec.toNat = (a % 4294967296).toNat := by
      show (BitVec.ofInt 32 a).toNat = _
      rw [BitVec.toNat_ofInt]
      rfl
    rw [h1]
    congr 1
    omega
  exact lv_i2c hC.1 hC.2.1 hd e1 (kk p e s mid args below meth c H locs ls hC hR hS hL (hW.tl.push (v := .inl (a % 65536)) ⟨by omega, by omega⟩))
theorem V.iand31 {a : Int} (h : At y pc .iand 1 pc') (kk : V G y R Qf pc' L (.inl (a % 32) :: st) sz m k n) : V G y R Qf pc L (.inl 31 :: .inl a :: st) sz m k n := by
  obtain ⟨hd, rfl⟩ := h
  intro p e s mid args below meth c H locs ls hC hR hS hL hW
  have wa : inR a := hW.tl.hd
  refine lv_iand hC.1 hC.2.1 hd ?_
  have e1 : Int32.ofInt a &&& Int32.ofInt 31 = Int32.ofInt (a % 32) := by
    rw [pk_and (Int32.ofInt a) (m := Int32.ofInt 31) 5 (by decide)]
    show Int32.ofNat _ = _
    rw [← Int32.ofInt_eq_ofNat]
    have h1 : (Int32.ofInt a).toBitVec.toNat = (a % 4294967296).toNat := by
      show (BitVec.ofInt 32 a).toNat = _
      rw [BitVec.toNat_ofInt]
      rfl
    rw [h1]
    congr 1
    omega
  rw [e1]
  exact kk p e s mid args below meth c H locs ls hC hR hS hL (hW.tl.tl.push (v := .inl (a % 32)) ⟨by omega, by omega⟩)
theorem V.dup {v : AV} (h : At y pc (.dup) 1 pc') (kk : V G y R Qf pc' L (v :: v :: st) sz m k n) : V G y R Qf pc L (v :: st) sz m k n := by
  obtain ⟨hd, rfl⟩ := h
  intro p e s mid args below meth c H locs ls hC hR hS hL hW
  exact lv_dup hC.1 hC.2.1 hd (toV_cat v) (kk p e s mid args below meth c H locs ls hC hR hS hL (hW.push hW.hd))
theorem V.pop {v : AV} (h : At y pc (.pop) 1 pc') (kk : V G y R Qf pc' L st sz m k n) : V G y R Qf pc L (v :: st) sz m k n := by
  obtain ⟨hd, rfl⟩ := h
  intro p e s mid args below meth c H locs ls hC hR hS hL hW
  exact lv_pop hC.1 hC.2.1 hd (toV_cat v) (kk p e s mid args below meth c H locs ls hC hR hS hL hW.tl)
theorem V.dup2 {v w : AV} (h : At y pc (.dup2) 1 pc') (kk : V G y R Qf pc' L (v :: w :: v :: w :: st) sz m k n) : V G y R Qf pc L (v :: w :: st) sz m k n := by
  obtain ⟨hd, rfl⟩ := h
  intro p e s mid args below meth c H locs ls hC hR hS hL hW
  exact lv_dup2_11 hC.1 hC.2.1 hd (toV_cat v) (toV_cat w) (kk p e s mid args below meth c H locs ls hC hR hS hL ((hW.push hW.tl.hd).push hW.hd))
theorem V.if_eq {z off : Int} {tgt : Nat} (h : At y pc (.ifCond .eq off) 3 pc') (ht : (pc : Int) + off = (tgt : Int)) (kt : z = 0 → V G y R Qf tgt L st sz m k n) (kf : z ≠ 0 → V G y R Qf pc' L st sz m k n) : V G y R Qf pc L (.inl z :: st) sz m k n := by
  obtain ⟨hd, rfl⟩ := h
  intro p e s mid args below meth c H locs ls hC hR hS hL hW
  have wz : inR z := hW.hd
  have w0 : inR 0 := by decide
  exact lv_if_eq hC.1 hC.2.1 hd ht (fun q => kt ((oI_eq wz w0).mp q) p e s mid args below meth c H locs ls hC hR hS hL hW.tl) (fun q => kf (fun e => q ((oI_eq wz w0).mpr e)) p e s mid args below meth c H locs ls hC hR hS hL hW.tl)
theorem V.if_ne {z off : Int} {tgt : Nat} (h : At y pc (.ifCond .ne off) 3 pc') (ht : (pc : Int) + off = (tgt : Int)) (kt : z ≠ 0 → V G y R Qf tgt L st sz m k n) (kf : z = 0 → V G y R Qf pc' L st sz m k n) : V G y R Qf pc L (.inl z :: st) sz m k n := by
  obtain ⟨hd, rfl⟩ := h
  intro p e s mid args below meth c H locs ls hC hR hS hL hW
  have wz : inR z := hW.hd
  have w0 : inR 0 := by decide
  exact lv_if_ne hC.1 hC.2.1 hd ht (fun q => kt (fun e => q ((oI_eq wz w0).mpr e)) p e s mid args below meth c H locs ls hC hR hS hL hW.tl) (fun q => kf ((oI_eq wz w0).mp q) p e s mid args below meth c H locs ls hC hR hS hL hW.tl)
theorem V.if_lt {z off : Int} {tgt : Nat} (h : At y pc (.ifCond .lt off) 3 pc') (ht : (pc : Int) + off = (tgt : Int)) (kt : z < 0 → V G y R Qf tgt L st sz m k n) (kf : 0 ≤ z → V G y R Qf pc' L st sz m k n) : V G y R Qf pc L (.inl z :: st) sz m k n := by
  obtain ⟨hd, rfl⟩ := h
  intro p e s mid args below meth c H locs ls hC hR hS hL hW
  have wz : inR z := hW.hd
  have w0 : inR 0 := by decide
  exact lv_if_lt hC.1 hC.2.1 hd ht (fun q => kt ((oI_lt wz w0).mp q) p e s mid args below meth c H locs ls hC hR hS hL hW.tl) (fun q => kf (Int.not_lt.mp (fun e => q ((oI_lt wz w0).mpr e))) p e s mid args below meth c H locs ls hC hR hS hL hW.tl)
theorem V.if_ge {z off : Int} {tgt : Nat} (h : At y pc (.ifCond .ge off) 3 pc') (ht : (pc : Int) + off = (tgt : Int)) (kt : 0 ≤ z → V G y R Qf tgt L st sz m k n) (kf : z < 0 → V G y R Qf pc' L st sz m k n) : V G y R Qf pc L (.inl z :: st) sz m k n := by
  obtain ⟨hd, rfl⟩ := h
  intro p e s mid args below meth c H locs ls hC hR hS hL hW
  have wz : inR z := hW.hd
  have w0 : inR 0 := by decide
  exact lv_if_ge hC.1 hC.2.1 hd ht (fun q => kt ((oI_le w0 wz).mp q) p e s mid args below meth c H locs ls hC hR hS hL hW.tl) (fun q => kf (Int.not_le.mp (fun e => q ((oI_le w0 wz).mpr e))) p e s mid args below meth c H locs ls hC hR hS hL hW.tl)
theorem V.if_gt {z off : Int} {tgt : Nat} (h : At y pc (.ifCond .gt off) 3 pc') (ht : (pc : Int) + off = (tgt : Int)) (kt : 0 < z → V G y R Qf tgt L st sz m k n) (kf : z ≤ 0 → V G y R Qf pc' L st sz m k n) : V G y R Qf pc L (.inl z :: st) sz m k n := by
  obtain ⟨hd, rfl⟩ := h
  intro p e s mid args below meth c H locs ls hC hR hS hL hW
  have wz : inR z := hW.hd
  have w0 : inR 0 := by decide
  exact lv_if_gt hC.1 hC.2.1 hd ht (fun q => kt ((oI_lt w0 wz).mp q) p e s mid args below meth c H locs ls hC hR hS hL hW.tl) (fun q => kf (Int.not_lt.mp (fun e => q ((oI_lt w0 wz).mpr e))) p e s mid args below meth c H locs ls hC hR hS hL hW.tl)
theorem V.if_le {z off : Int} {tgt : Nat} (h : At y pc (.ifCond .le off) 3 pc') (ht : (pc : Int) + off = (tgt : Int)) (kt : z ≤ 0 → V G y R Qf tgt L st sz m k n) (kf : 0 < z → V G y R Qf pc' L st sz m k n) : V G y R Qf pc L (.inl z :: st) sz m k n := by
  obtain ⟨hd, rfl⟩ := h
  intro p e s mid args below meth c H locs ls hC hR hS hL hW
  have wz : inR z := hW.hd
  have w0 : inR 0 := by decide
  exact lv_if_le hC.1 hC.2.1 hd ht (fun q => kt ((oI_le wz w0).mp q) p e s mid args below meth c H locs ls hC hR hS hL hW.tl) (fun q => kf (Int.not_le.mp (fun e => q ((oI_le wz w0).mpr e))) p e s mid args below meth c H locs ls hC hR hS hL hW.tl)
theorem V.icmp_eq {a b off : Int} {tgt : Nat} (h : At y pc (.if_icmp .eq off) 3 pc') (ht : (pc : Int) + off = (tgt : Int)) (kt : a = b → V G y R Qf tgt L st sz m k n) (kf : a ≠ b → V G y R Qf pc' L st sz m k n) : V G y R Qf pc L (.inl b :: .inl a :: st) sz m k n := by
  obtain ⟨hd, rfl⟩ := h
  intro p e s mid args below meth c H locs ls hC hR hS hL hW
  have wb : inR b := hW.hd
  have wa : inR a := hW.tl.hd
  exact lv_icmp_eq hC.1 hC.2.1 hd ht (fun q => kt ((oI_eq wa wb).mp q) p e s mid args below meth c H locs ls hC hR hS hL hW.tl.tl) (fun q => kf (fun e => q ((oI_eq wa wb).mpr e)) p e s mid args below meth c H locs ls hC hR hS hL hW.tl.tl)
theorem V.icmp_ne {a b off : Int} {tgt : Nat} (h : At y pc (.if_icmp .ne off) 3 pc') (ht : (pc : Int) + off = (tgt : Int)) (kt : a ≠ b → V G y R Qf tgt L st sz m k n) (kf : a = b → V G y R Qf pc' L st sz m k n) : V G y R Qf pc L (.inl b :: .inl a :: st) sz m k n := by
  obtain ⟨hd, rfl⟩ := h
  intro p e s mid args below meth c H locs ls hC hR hS hL hW
  have wb : inR b := hW.hd
  have wa : inR a := hW.tl.hd
  exact lv_icmp_ne hC.1 hC.2.1 hd ht (fun q => kt (fun e => q ((oI_eq wa wb).mpr e)) p e s mid args below meth c H locs ls hC hR hS hL hW.tl.tl) (fun q => kf ((oI_eq wa wb).mp q) p e s mid args below meth c H locs ls hC hR hS hL hW.tl.tl)
theorem V.icmp_lt {a b off : Int} {tgt : Nat} (h : At y pc (.if_icmp .lt off) 3 pc') (ht : (pc : Int) + off = (tgt : Int)) (kt : a < b → V G y R Qf tgt L st sz m k n) (kf : b ≤ a → V G y R Qf pc' L st sz m k n) : V G y R Qf pc L (.inl b :: .inl a :: st) sz m k n := by
  obtain ⟨hd, rfl⟩ := h
  intro p e s mid args below meth c H locs ls hC hR hS hL hW
  have wb : inR b := hW.hd
  have wa : inR a := hW.tl.hd
  exact lv_icmp_lt hC.1 hC.2.1 hd ht (fun q => kt ((oI_lt wa wb).mp q) p e s mid args below meth c H locs ls hC hR hS hL hW.tl.tl) (fun q => kf (Int.not_lt.mp (fun e => q ((oI_lt wa wb).mpr e))) p e s mid args below meth c H locs ls hC hR hS hL hW.tl.tl)
theorem V.icmp_ge {a b off : Int} {tgt : Nat} (h : At y pc (.if_icmp .ge off) 3 pc') (ht : (pc : Int) + off = (tgt : Int)) (kt : b ≤ a → V G y R Qf tgt L st sz m k n) (kf : a < b → V G y R Qf pc' L st sz m k n) : V G y R Qf pc L (.inl b :: .inl a :: st) sz m k n := by
  obtain ⟨hd, rfl⟩ := h
  intro p e s mid args below meth c H locs ls hC hR hS hL hW
  have wb : inR b := hW.hd
  have wa : inR a := hW.tl.hd
  exact lv_icmp_ge hC.1 hC.2.1 hd ht (fun q => kt ((oI_le wb wa).mp q) p e s mid args below meth c H locs ls hC hR hS hL hW.tl.tl) (fun q => kf (Int.not_le.mp (fun e => q ((oI_le wb wa).mpr e))) p e s mid args below meth c H locs ls hC hR hS hL hW.tl.tl)
theorem V.icmp_gt {a b off : Int} {tgt : Nat} (h : At y pc (.if_icmp .gt off) 3 pc') (ht : (pc : Int) + off = (tgt : Int)) (kt : b < a → V G y R Qf tgt L st sz m k n) (kf : a ≤ b → V G y R Qf pc' L st sz m k n) : V G y R Qf pc L (.inl b :: .inl a :: st) sz m k n := by
  obtain ⟨hd, rfl⟩ := h
  intro p e s mid args below meth c H locs ls hC hR hS hL hW
  have wb : inR b := hW.hd
  have wa : inR a := hW.tl.hd
  exact lv_icmp_gt hC.1 hC.2.1 hd ht (fun q => kt ((oI_lt wb wa).mp q) p e s mid args below meth c H locs ls hC hR hS hL hW.tl.tl) (fun q => kf (Int.not_lt.mp (fun e => q ((oI_lt wb wa).mpr e))) p e s mid args below meth c H locs ls hC hR hS hL hW.tl.tl)
theorem V.icmp_le {a b off : Int} {tgt : Nat} (h : At y pc (.if_icmp .le off) 3 pc') (ht : (pc : Int) + off = (tgt : Int)) (kt : a ≤ b → V G y R Qf tgt L st sz m k n) (kf : b < a → V G y R Qf pc' L st sz m k n) : V G y R Qf pc L (.inl b :: .inl a :: st) sz m k n := by
  obtain ⟨hd, rfl⟩ := h
  intro p e s mid args below meth c H locs ls hC hR hS hL hW
  have wb : inR b := hW.hd
  have wa : inR a := hW.tl.hd
  exact lv_icmp_le hC.1 hC.2.1 hd ht (fun q => kt ((oI_le wa wb).mp q) p e s mid args below meth c H locs ls hC hR hS hL hW.tl.tl) (fun q => kf (Int.not_le.mp (fun e => q ((oI_le wa wb).mpr e))) p e s mid args below meth c H locs ls hC hR hS hL hW.tl.tl)
theorem V.goto {off : Int} {tgt : Nat} (h : At y pc (.goto off) 3 pc') (ht : (pc : Int) + off = (tgt : Int)) (kk : V G y R Qf tgt L st sz m k n) : V G y R Qf pc L st sz m k n := by
  obtain ⟨hd, rfl⟩ := h
  intro p e s mid args below meth c H locs ls hC hR hS hL hW
  exact lv_goto hC.1 hC.2.1 hd ht (kk p e s mid args below meth c H locs ls hC hR hS hL hW)
theorem V.ifnull {r : Option Nat} {off : Int} {tgt : Nat} (h : At y pc (.ifnull off) 3 pc') (ht : (pc : Int) + off = (tgt : Int)) (kt : r = none → V G y R Qf tgt L st sz m k n) (kf : ∀ a : Nat, r = some a → V G y R Qf pc' L st sz m k n) : V G y R Qf pc L (.inr r :: st) sz m k n := by
  obtain ⟨hd, rfl⟩ := h
  intro p e s mid args below meth c H locs ls hC hR hS hL hW
  cases r with
  | none => exact lv_ifnullN hC.1 hC.2.1 hd ht (kt rfl p e s mid args below meth c H locs ls hC hR hS hL hW.tl)
  | some a => exact lv_ifnull hC.1 hC.2.1 hd (kf a rfl p e s mid args below meth c H locs ls hC hR hS hL hW.tl)
theorem V.ifnonnull {r : Option Nat} {off : Int} {tgt : Nat} (h : At y pc (.ifnonnull off) 3 pc') (ht : (pc : Int) + off = (tgt : Int)) (kt : ∀ a : Nat, r = some a → V G y R Qf tgt L st sz m k n) (kf : r = none → V G y R Qf pc' L st sz m k n) : V G y R Qf pc L (.inr r :: st) sz m k n := by
  obtain ⟨hd, rfl⟩ := h
  intro p e s mid args below meth c H locs ls hC hR hS hL hW
  cases r with
  | none => exact lv_ifnonnullN hC.1 hC.2.1 hd (kf rfl p e s mid args below meth c H locs ls hC hR hS hL hW.tl)
  | some a => exact lv_ifnonnull hC.1 hC.2.1 hd ht (kt a rfl p e s mid args below meth c H locs ls hC hR hS hL hW.tl)
theorem V.tswOut {d lo hi : Int} {offs : Array Int} {len : Nat} {z : Int} {tgt : Nat} (h : At y pc (.tableswitch d lo hi offs) len pc') (hz : z < lo ∨ hi < z) (ht : (pc : Int) + d = (tgt : Int)) (kk : V G y R Qf tgt L st sz m k n) : V G y R Qf pc L (.inl z :: st) sz m k n := by
  obtain ⟨hd, rfl⟩ := h
  intro p e s mid args below meth c H locs ls hC hR hS hL hW
  have wz : inR z := hW.hd
  exact lv_tableOut hC.1 hC.2.1 hd (by rw [inR_toInt wz]; exact hz) ht (kk p e s mid args below meth c H locs ls hC hR hS hL hW.tl)
theorem V.tswIn {d lo hi : Int} {offs : Array Int} {len : Nat} {z off : Int} {tgt : Nat} (h : At y pc (.tableswitch d lo hi offs) len pc') (h1 : lo ≤ z) (h2 : z ≤ hi) (ho : offs[(z - lo).toNat]? = some off) (ht : (pc : Int) + off = (tgt : Int)) (kk : V G y R Qf tgt L st sz m k n) : V G y R Qf pc L (.inl z :: st) sz m k n := by
  obtain ⟨hd, rfl⟩ := h
  intro p e s mid args below meth c H locs ls hC hR hS hL hW
  have wz : inR z := hW.hd
  have e1 := inR_toInt wz
  exact lv_tableIn hC.1 hC.2.1 hd (by rw [e1]; omega) (by rw [e1]; omega) (by rw [e1]; exact ho) ht (kk p e s mid args below meth c H locs ls hC hR hS hL hW.tl)
-- what is known of numbers
theorem V.know {v : AV} (kk : wfv v → V G y R Qf pc L (v :: st) sz m k n) : V G y R Qf pc L (v :: st) sz m k n := by
  intro p e s mid args below meth c H locs ls hC hR hS hL hW
  exact kk hW.hd p e s mid args below meth c H locs ls hC hR hS hL hW
theorem V.knowL {i : Nat} {v : AV} (hi : L[i]? = some (some v)) (kk : wfv v → V G y R Qf pc L st sz m k n) : V G y R Qf pc L st sz m k n := by
  intro p e s mid args below meth c H locs ls hC hR hS hL hW
  exact kk (hW.1 i v hi) p e s mid args below meth c H locs ls hC hR hS hL hW
theorem V.knowO {a ci : Nat} {fs : List AV} (ha : m a = obj ci fs) (kk : (∀ v ∈ fs, wfv v) → V G y R Qf pc L st sz m k n) : V G y R Qf pc L st sz m k n := by
  intro p e s mid args below meth c H locs ls hC hR hS hL hW
  have h := hR.2.2 a
  rw [ha] at h
  exact kk h.2.1 p e s mid args below meth c H locs ls hC hR hS hL hW
theorem V.knowI {a nn : Nat} {f : Int → Int} (ha : m a = iar nn f) (kk : (∀ i : Int, 0 ≤ i → i < nn → inR (f i)) → V G y R Qf pc L st sz m k n) : V G y R Qf pc L st sz m k n := by
  intro p e s mid args below meth c H locs ls hC hR hS hL hW
  have h := hR.2.2 a
  rw [ha] at h
  exact kk (fun i h0 h1 => (h.2.1 i h0 h1).1) p e s mid args below meth c H locs ls hC hR hS hL hW
theorem V.knowC {a nn : Nat} {f : Int → Int} (ha : m a = car nn f) (kk : (∀ i : Int, 0 ≤ i → i < nn → 0 ≤ f i ∧ f i < 65536) → V G y R Qf pc L st sz m k n) : V G y R Qf pc L st sz m k n := by
  intro p e s mid args below meth c H locs ls hC hR hS hL hW
  have h := hR.2.2 a
  rw [ha] at h
  exact kk (fun i h0 h1 => (h.2.1 i h0 h1).2 rfl) p e s mid args below meth c H locs ls hC hR hS hL hW
theorem V.knowS (kk : (∀ a : Nat, sz ≤ a → m a = unk) → G.2.2.1 ≤ sz → V G y R Qf pc L st sz m k n) : V G y R Qf pc L st sz m k n := by
  intro p e s mid args below meth c H locs ls hC hR hS hL hW
  refine kk (fun a ha => ?_) hR.2.1 p e s mid args below meth c H locs ls hC hR hS hL hW
  by_cases hu : m a = unk
  · exact hu
  · have h := (hR.2.2 a).lt hu
    rw [hR.1] at h
    omega
theorem V.knowB {a : Nat} (ha : m a ≠ unk) (kk : a < sz → V G y R Qf pc L st sz m k n) : V G y R Qf pc L st sz m k n := by
  intro p e s mid args below meth c H locs ls hC hR hS hL hW
  have h := (hR.2.2 a).lt ha
  rw [hR.1] at h
  exact kk h p e s mid args below meth c H locs ls hC hR hS hL hW
theorem V.mem {m2 : Mem} (hm : m2 = m) (kk : V G y R Qf pc L st sz m2 k n) : V G y R Qf pc L st sz m k n := hm ▸ kk
end
section
variable {G : GX} {y : MK} {R : Room} {Qf : QF} {pc pc' : Nat} {st : List AV} {sz : Nat} {m : Mem} {k n : Nat}
theorem V.ist0 {w : Option AV} {z : Int} {L : List (Option AV)} (h : At y pc (.istore_n 0) 1 pc') (kk : V G y R Qf pc' (some (.inl z) :: L) st sz m k n) : V G y R Qf pc (w :: L) (.inl z :: st) sz m k n := V.istore_n h (by show 0 < List.length _; simp) kk
theorem V.ast0 {w : Option AV} {r : Option Nat} {L : List (Option AV)} (h : At y pc (.astore_n 0) 1 pc') (kk : V G y R Qf pc' (some (.inr r) :: L) st sz m k n) : V G y R Qf pc (w :: L) (.inr r :: st) sz m k n := V.astore_n h (by show 0 < List.length _; simp) kk
theorem V.inc0 {d z : Int} {L : List (Option AV)} (h : At y pc (.iinc 0 d) 3 pc') (hz : inR (z + d)) (kk : V G y R Qf pc' (some (.inl (z + d)) :: L) st sz m k n) : V G y R Qf pc (some (.inl z) :: L) st sz m k n := V.iinc h rfl hz kk
theorem V.ild0 {z : Int} {L : List (Option AV)} (h : At y pc (.iload_n 0) 1 pc') (kk : V G y R Qf pc' (some (.inl z) :: L) (.inl z :: st) sz m k n) : V G y R Qf pc (some (.inl z) :: L) st sz m k n := V.iload_n h rfl kk
theorem V.ald0 {r : Option Nat} {L : List (Option AV)} (h : At y pc (.aload_n 0) 1 pc') (kk : V G y R Qf pc' (some (.inr r) :: L) (.inr r :: st) sz m k n) : V G y R Qf pc (some (.inr r) :: L) st sz m k n := V.aload_n h rfl kk
theorem V.ist1 {x0 w : Option AV} {z : Int} {L : List (Option AV)} (h : At y pc (.istore_n 1) 1 pc') (kk : V G y R Qf pc' (x0 :: some (.inl z) :: L) st sz m k n) : V G y R Qf pc (x0 :: w :: L) (.inl z :: st) sz m k n := V.istore_n h (by show 1 < List.length _; simp) kk
theorem V.ast1 {x0 w : Option AV} {r : Option Nat} {L : List (Option AV)} (h : At y pc (.astore_n 1) 1 pc') (kk : V G y R Qf pc' (x0 :: some (.inr r) :: L) st sz m k n) : V G y R Qf pc (x0 :: w :: L) (.inr r :: st) sz m k n := V.astore_n h (by show 1 < List.length _; simp) kk
theorem V.inc1 {x0 : Option AV} {d z : Int} {L : List (Option AV)} (h : At y pc (.iinc 1 d) 3 pc') (hz : inR (z + d)) (kk : V G y R Qf pc' (x0 :: some (.inl (z + d)) :: L) st sz m k n) : V G y R Qf pc (x0 :: some (.inl z) :: L) st sz m k n := V.iinc h rfl hz kk
theorem V.ild1 {x0 : Option AV} {z : Int} {L : List (Option AV)} (h : At y pc (.iload_n 1) 1 pc') (kk : V G y R Qf pc' (x0 :: some (.inl z) :: L) (.inl z :: st) sz m k n) : V G y R Qf pc (x0 :: some (.inl z) :: L) st sz m k n := V.iload_n h rfl kk
theorem V.ald1 {x0 : Option AV} {r : Option Nat} {L : List (Option AV)} (h : At y pc (.aload_n 1) 1 pc') (kk : V G y R Qf pc' (x0 :: some (.inr r) :: L) (.inr r :: st) sz m k n) : V G y R Qf pc (x0 :: some (.inr r) :: L) st sz m k n := V.aload_n h rfl kk
theorem V.ist2 {x0 x1 w : Option AV} {z : Int} {L : List (Option AV)} (h : At y pc (.istore_n 2) 1 pc') (kk : V G y R Qf pc' (x0 :: x1 :: some (.inl z) :: L) st sz m k n) : V G y R Qf pc (x0 :: x1 :: w :: L) (.inl z :: st) sz m k n := V.istore_n h (by show 2 < List.length _; simp) kk
theorem V.ast2 {x0 x1 w : Option AV} {r : Option Nat} {L : List (Option AV)} (h : At y pc (.astore_n 2) 1 pc') (kk : V G y R Qf pc' (x0 :: x1 :: some (.inr r) :: L) st sz m k n) : V G y R Qf pc (x0 :: x1 :: w :: L) (.inr r :: st) sz m k n := V.astore_n h (by show 2 < List.length _; simp) kk
theorem V.inc2 {x0 x1 : Option AV} {d z : Int} {L : List (Option AV)} (h : At y pc (.iinc 2 d) 3 pc') (hz : inR (z + d)) (kk : V G y R Qf pc' (x0 :: x1 :: some (.inl (z + d)) :: L) st sz m k n) : V G y R Qf pc (x0 :: x1 :: some (.inl z) :: L) st sz m k n := V.iinc h rfl hz kk
theorem V.ild2 {x0 x1 : Option AV} {z : Int} {L : List (Option AV)} (h : At y pc (.iload_n 2) 1 pc') (kk : V G y R Qf pc' (x0 :: x1 :: some (.inl z) :: L) (.inl z :: st) sz m k n) : V G y R Qf pc (x0 :: x1 :: some (.inl z) :: L) st sz m k n := V.iload_n h rfl kk
theorem V.ald2 {x0 x1 : Option AV} {r : Option Nat} {L : List (Option AV)} (h : At y pc (.aload_n 2) 1 pc') (kk : V G y R Qf pc' (x0 :: x1 :: some (.inr r) :: L) (.inr r :: st) sz m k n) : V G y R Qf pc (x0 :: x1 :: some (.inr r) :: L) st sz m k n := V.aload_n h rfl kk
theorem V.ist3 {x0 x1 x2 w : Option AV} {z : Int} {L : List (Option AV)} (h : At y pc (.istore_n 3) 1 pc') (kk : V G y R Qf pc' (x0 :: x1 :: x2 :: some (.inl z) :: L) st sz m k n) : V G y R Qf pc (x0 :: x1 :: x2 :: w :: L) (.inl z :: st) sz m k n := V.istore_n h (by show 3 < List.length _; simp) kk
theorem V.ast3 {x0 x1 x2 w : Option AV} {r : Option Nat} {L : List (Option AV)} (h : At y pc (.astore_n 3) 1 pc') (kk : V G y R Qf pc' (x0 :: x1 :: x2 :: some (.inr r) :: L) st sz m k n) : V G y R Qf pc (x0 :: x1 :: x2 :: w :: L) (.inr r :: st) sz m k n := V.astore_n h (by show 3 < List.length _; simp) kk
theorem V.inc3 {x0 x1 x2 : Option AV} {d z : Int} {L : List (Option AV)} (h : At y pc (.iinc 3 d) 3 pc') (hz : inR (z + d)) (kk : V G y R Qf pc' (x0 :: x1 :: x2 :: some (.inl (z + d)) :: L) st sz m k n) : V G y R Qf pc (x0 :: x1 :: x2 :: some (.inl z) :: L) st sz m k n := V.iinc h rfl hz kk
theorem V.ild3 {x0 x1 x2 : Option AV} {z : Int} {L : List (Option AV)} (h : At y pc (.iload_n 3) 1 pc') (kk : V G y R Qf pc' (x0 :: x1 :: x2 :: some (.inl z) :: L) (.inl z :: st) sz m k n) : V G y R Qf pc (x0 :: x1 :: x2 :: some (.inl z) :: L) st sz m k n := V.iload_n h rfl kk
theorem V.ald3 {x0 x1 x2 : Option AV} {r : Option Nat} {L : List (Option AV)} (h : At y pc (.aload_n 3) 1 pc') (kk : V G y R Qf pc' (x0 :: x1 :: x2 :: some (.inr r) :: L) (.inr r :: st) sz m k n) : V G y R Qf pc (x0 :: x1 :: x2 :: some (.inr r) :: L) st sz m k n := V.aload_n h rfl kk
theorem V.ist4 {x0 x1 x2 x3 w : Option AV} {z : Int} {L : List (Option AV)} (h : At y pc (.istore 4) 2 pc') (kk : V G y R Qf pc' (x0 :: x1 :: x2 :: x3 :: some (.inl z) :: L) st sz m k n) : V G y R Qf pc (x0 :: x1 :: x2 :: x3 :: w :: L) (.inl z :: st) sz m k n := V.istore h (by show 4 < List.length _; simp) kk
theorem V.ast4 {x0 x1 x2 x3 w : Option AV} {r : Option Nat} {L : List (Option AV)} (h : At y pc (.astore 4) 2 pc') (kk : V G y R Qf pc' (x0 :: x1 :: x2 :: x3 :: some (.inr r) :: L) st sz m k n) : V G y R Qf pc (x0 :: x1 :: x2 :: x3 :: w :: L) (.inr r :: st) sz m k n := V.astore h (by show 4 < List.length _; simp) kk
theorem V.inc4 {x0 x1 x2 x3 : Option AV} {d z : Int} {L : List (Option AV)} (h : At y pc (.iinc 4 d) 3 pc') (hz : inR (z + d)) (kk : V G y R Qf pc' (x0 :: x1 :: x2 :: x3 :: some (.inl (z + d)) :: L) st sz m k n) : V G y R Qf pc (x0 :: x1 :: x2 :: x3 :: some (.inl z) :: L) st sz m k n := V.iinc h rfl hz kk
theorem V.ild4 {x0 x1 x2 x3 : Option AV} {z : Int} {L : List (Option AV)} (h : At y pc (.iload 4) 2 pc') (kk : V G y R Qf pc' (x0 :: x1 :: x2 :: x3 :: some (.inl z) :: L) (.inl z :: st) sz m k n) : V G y R Qf pc (x0 :: x1 :: x2 :: x3 :: some (.inl z) :: L) st sz m k n := V.iload h rfl kk
theorem V.ald4 {x0 x1 x2 x3 : Option AV} {r : Option Nat} {L : List (Option AV)} (h : At y pc (.aload 4) 2 pc') (kk : V G y R Qf pc' (x0 :: x1 :: x2 :: x3 :: some (.inr r) :: L) (.inr r :: st) sz m k n) : V G y R Qf pc (x0 :: x1 :: x2 :: x3 :: some (.inr r) :: L) st sz m k n := V.aload h rfl kk
theorem V.ist5 {x0 x1 x2 x3 x4 w : Option AV} {z : Int} {L : List (Option AV)} (h : At y pc (.istore 5) 2 pc') (kk : V G y R Qf pc' (x0 :: x1 :: x2 :: x3 :: x4 :: some (.inl z) :: L) st sz m k n) : V G y R Qf pc (x0 :: x1 :: x2 :: x3 :: x4 :: w :: L) (.inl z :: st) sz m k n := V.istore h (by show 5 < List.length _; simp) kk
theorem V.ast5 {x0 x1 x2 x3 x4 w : Option AV} {r : Option Nat} {L : List (Option AV)} (h : At y pc (.astore 5) 2 pc') (kk : V G y R Qf pc' (x0 :: x1 :: x2 :: x3 :: x4 :: some (.inr r) :: L) st sz m k n) : V G y R Qf pc (x0 :: x1 :: x2 :: x3 :: x4 :: w :: L) (.inr r :: st) sz m k n := V.astore h (by show 5 < List.length _; simp) kk
theorem V.inc5 {x0 x1 x2 x3 x4 : Option AV} {d z : Int} {L : List (Option AV)} (h : At y pc (.iinc 5 d) 3 pc') (hz : inR (z + d)) (kk : V G y R Qf pc' (x0 :: x1 :: x2 :: x3 :: x4 :: some (.inl (z + d)) :: L) st sz m k n) : V G y R Qf pc (x0 :: x1 :: x2 :: x3 :: x4 :: some (.inl z) :: L) st sz m k n := V.iinc h rfl hz kk
theorem V.ild5 {x0 x1 x2 x3 x4 : Option AV} {z : Int} {L : List (Option AV)} (h : At y pc (.iload 5) 2 pc') (kk : V G y R Qf pc' (x0 :: x1 :: x2 :: x3 :: x4 :: some (.inl z) :: L) (.inl z :: st) sz m k n) : V G y R Qf pc (x0 :: x1 :: x2 :: x3 :: x4 :: some (.inl z) :: L) st sz m k n := V.iload h rfl kk
theorem V.ald5 {x0 x1 x2 x3 x4 : Option AV} {r : Option Nat} {L : List (Option AV)} (h : At y pc (.aload 5) 2 pc') (kk : V G y R Qf pc' (x0 :: x1 :: x2 :: x3 :: x4 :: some (.inr r) :: L) (.inr r :: st) sz m k n) : V G y R Qf pc (x0 :: x1 :: x2 :: x3 :: x4 :: some (.inr r) :: L) st sz m k n := V.aload h rfl kk
theorem V.ist6 {x0 x1 x2 x3 x4 x5 w : Option AV} {z : Int} {L : List (Option AV)} (h : At y pc (.istore 6) 2 pc') (kk : V G y R Qf pc' (x0 :: x1 :: x2 :: x3 :: x4 :: x5 :: some (.inl z) :: L) st sz m k n) : V G y R Qf pc (x0 :: x1 :: x2 :: x3 :: x4 :: x5 :: w :: L) (.inl z :: st) sz m k n := V.istore h (by show 6 < List.length _; simp) kk
theorem V.ast6 {x0 x1 x2 x3 x4 x5 w : Option AV} {r : Option Nat} {L : List (Option AV)} (h : At y pc (.astore 6) 2 pc') (kk : V G y R Qf pc' (x0 :: x1 :: x2 :: x3 :: x4 :: x5 :: some (.inr r) :: L) st sz m k n) : V G y R Qf pc (x0 :: x1 :: x2 :: x3 :: x4 :: x5 :: w :: L) (.inr r :: st) sz m k n := V.astore h (by show 6 < List.length _; simp) kk
theorem V.inc6 {x0 x1 x2 x3 x4 x5 : Option AV} {d z : Int} {L : List (Option AV)} (h : At y pc (.iinc 6 d) 3 pc') (hz : inR (z + d)) (kk : V G y R Qf pc' (x0 :: x1 :: x2 :: x3 :: x4 :: x5 :: some (.inl (z + d)) :: L) st sz m k n) : V G y R Qf pc (x0 :: x1 :: x2 :: x3 :: x4 :: x5 :: some (.inl z) :: L) st sz m k n := V.iinc h rfl hz kk
theorem V.ild6 {x0 x1 x2 x3 x4 x5 : Option AV} {z : Int} {L : List (Option AV)} (h : At y pc (.iload 6) 2 pc') (kk : V G y R Qf pc' (x0 :: x1 :: x2 :: x3 :: x4 :: x5 :: some (.inl z) :: L) (.inl z :: st) sz m k n) : V G y R Qf pc (x0 :: x1 :: x2 :: x3 :: x4 :: x5 :: some (.inl z) :: L) st sz m k n := V.iload h rfl kk
theorem V.ald6 {x0 x1 x2 x3 x4 x5 : Option AV} {r : Option Nat} {L : List (Option AV)} (h : At y pc (.aload 6) 2 pc') (kk : V G y R Qf pc' (x0 :: x1 :: x2 :: x3 :: x4 :: x5 :: some (.inr r) :: L) (.inr r :: st) sz m k n) : V G y R Qf pc (x0 :: x1 :: x2 :: x3 :: x4 :: x5 :: some (.inr r) :: L) st sz m k n := V.aload h rfl kk
theorem V.ist7 {x0 x1 x2 x3 x4 x5 x6 w : Option AV} {z : Int} {L : List (Option AV)} (h : At y pc (.istore 7) 2 pc') (kk : V G y R Qf pc' (x0 :: x1 :: x2 :: x3 :: x4 :: x5 :: x6 :: some (.inl z) :: L) st sz m k n) : V G y R Qf pc (x0 :: x1 :: x2 :: x3 :: x4 :: x5 :: x6 :: w :: L) (.inl z :: st) sz m k n := V.istore h (by show 7 < List.length _; simp) kk
theorem V.ast7 {x0 x1 x2 x3 x4 x5 x6 w : Option AV} {r : Option Nat} {L : List (Option AV)} (h : At y pc (.astore 7) 2 pc') (kk : V G y R Qf pc' (x0 :: x1 :: x2 :: x3 :: x4 :: x5 :: x6 :: some (.inr r) :: L) st sz m k n) : V G y R Qf pc (x0 :: x1 :: x2 :: x3 :: x4 :: x5 :: x6 :: w :: L) (.inr r :: st) sz m k n := V.astore h (by show 7 < List.length _; simp) kk
theorem V.inc7 {x0 x1 x2 x3 x4 x5 x6 : Option AV} {d z : Int} {L : List (Option AV)} (h : At y pc (.iinc 7 d) 3 pc') (hz : inR (z + d)) (kk : V G y R Qf pc' (x0 :: x1 :: x2 :: x3 :: x4 :: x5 :: x6 :: some (.inl (z + d)) :: L) st sz m k n) : V G y R Qf pc (x0 :: x1 :: x2 :: x3 :: x4 :: x5 :: x6 :: some (.inl z) :: L) st sz m k n := V.iinc h rfl hz kk
theorem V.ild7 {x0 x1 x2 x3 x4 x5 x6 : Option AV} {z : Int} {L : List (Option AV)} (h : At y pc (.iload 7) 2 pc') (kk : V G y R Qf pc' (x0 :: x1 :: x2 :: x3 :: x4 :: x5 :: x6 :: some (.inl z) :: L) (.inl z :: st) sz m k n) : V G y R Qf pc (x0 :: x1 :: x2 :: x3 :: x4 :: x5 :: x6 :: some (.inl z) :: L) st sz m k n := V.iload h rfl kk
theorem V.ald7 {x0 x1 x2 x3 x4 x5 x6 : Option AV} {r : Option Nat} {L : List (Option AV)} (h : At y pc (.aload 7) 2 pc') (kk : V G y R Qf pc' (x0 :: x1 :: x2 :: x3 :: x4 :: x5 :: x6 :: some (.inr r) :: L) (.inr r :: st) sz m k n) : V G y R Qf pc (x0 :: x1 :: x2 :: x3 :: x4 :: x5 :: x6 :: some (.inr r) :: L) st sz m k n := V.aload h rfl kk
theorem V.ist8 {x0 x1 x2 x3 x4 x5 x6 x7 w : Option AV} {z : Int} {L : List (Option AV)} (h : At y pc (.istore 8) 2 pc') (kk : V G y R Qf pc' (x0 :: x1 :: x2 :: x3 :: x4 :: x5 :: x6 :: x7 :: some (.inl z) :: L) st sz m k n) : V G y R Qf pc (x0 :: x1 :: x2 :: x3 :: x4 :: x5 :: x6 :: x7 :: w :: L) (.inl z :: st) sz m k n := V.istore h (by show 8 < List.length _; simp) kk
theorem V.ast8 {x0 x1 x2 x3 x4 x5 x6 x7 w : Option AV} {r : Option Nat} {L : List (Option AV)} (h : At y pc (.astore 8) 2 pc') (kk : V G y R Qf pc' (x0 :: x1 :: x2 :: x3 :: x4 :: x5 :: x6 :: x7 :: some (.inr r) :: L) st sz m k n) : V G y R Qf pc (x0 :: x1 :: x2 :: x3 :: x4 :: x5 :: x6 :: x7 :: w :: L) (.inr r :: st) sz m k n := V.astore h (by show 8 < List.length _; simp) kk
theorem V.inc8 {x0 x1 x2 x3 x4 x5 x6 x7 : Option AV} {d z : Int} {L : List (Option AV)} (h : At y pc (.iinc 8 d) 3 pc') (hz : inR (z + d)) (kk : V G y R Qf pc' (x0 :: x1 :: x2 :: x3 :: x4 :: x5 :: x6 :: x7 :: some (.inl (z + d)) :: L) st sz m k n) : V G y R Qf pc (x0 :: x1 :: x2 :: x3 :: x4 :: x5 :: x6 :: x7 :: some (.inl z) :: L) st sz m k n := V.iinc h rfl hz kk
theorem V.ild8 {x0 x1 x2 x3 x4 x5 x6 x7 : Option AV} {z : Int} {L : List (Option AV)} (h : At y pc (.iload 8) 2 pc') (kk : V G y R Qf pc' (x0 :: x1 :: x2 :: x3 :: x4 :: x5 :: x6 :: x7 :: some (.inl z) :: L) (.inl z :: st) sz m k n) : V G y R Qf pc (x0 :: x1 :: x2 :: x3 :: x4 :: x5 :: x6 :: x7 :: some (.inl z) :: L) st sz m k n := V.iload h rfl kk
theorem V.ald8 {x0 x1 x2 x3 x4 x5 x6 x7 : Option AV} {r : Option Nat} {L : List (Option AV)} (h : At y pc (.aload 8) 2 pc') (kk : V G y R Qf pc' (x0 :: x1 :: x2 :: x3 :: x4 :: x5 :: x6 :: x7 :: some (.inr r) :: L) (.inr r :: st) sz m k n) : V G y R Qf pc (x0 :: x1 :: x2 :: x3 :: x4 :: x5 :: x6 :: x7 :: some (.inr r) :: L) st sz m k n := V.aload h rfl kk
end
