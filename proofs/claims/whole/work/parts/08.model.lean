-- folds over whole numbers
def foldN {α : Type} (f : α → Int → α) (z : α) (a : Int) : Nat → α
  | 0 => z
  | n + 1 => f (foldN f z a n) (a + n)
def foldI {α : Type} (f : α → Int → α) (z : α) (a b : Int) : α := foldN f z a (b - a).toNat
theorem foldI_0 {α : Type} {f : α → Int → α} {z : α} {a b : Int} (h : b ≤ a) : foldI f z a b = z := by
  unfold foldI
  rw [show (b - a).toNat = 0 by omega]
  rfl
theorem foldI_s {α : Type} {f : α → Int → α} {z : α} {a k : Int} (h : a ≤ k) : foldI f z a (k + 1) = f (foldI f z a k) k := by
  unfold foldI
  rw [show (k + 1 - a).toNat = (k - a).toNat + 1 by omega]
  show f _ _ = _
  rw [show a + ((k - a).toNat : Int) = k by omega]
theorem foldI_ind {α : Type} {f : α → Int → α} {z : α} {a : Int} (P : Int → α → Prop) (h0 : P a z) (hs : ∀ k x, a ≤ k → P k x → P (k + 1) (f x k)) : ∀ b, a ≤ b → P b (foldI f z a b) := by
  intro b hb
  obtain ⟨n, hn⟩ : ∃ n : Nat, b = a + n := ⟨(b - a).toNat, by omega⟩
  subst hn
  clear hb
  induction n with
  | zero => rw [foldI_0 (by omega)]; simpa using h0
  | succ n ih =>
    have e : a + ((n + 1 : Nat) : Int) = (a + n) + 1 := by omega
    rw [e, foldI_s (by omega)]
    exact hs _ _ (by omega) ih
theorem foldI_congr {α : Type} {f g : α → Int → α} {z : α} {a b : Int} (h : ∀ k x, a ≤ k → k < b → f x k = g x k) : foldI f z a b = foldI g z a b := by
  unfold foldI
  have : ∀ n : Nat, a + n ≤ b ∨ n = 0 → foldN f z a n = foldN g z a n := by
    intro n
    induction n with
    | zero => intro _; rfl
    | succ n ih =>
      intro hn
      show f _ _ = g _ _
      rw [ih (by omega), h _ _ (by omega) (by omega)]
  exact this _ (by omega)
-- from the end down
def foldD {α : Type} (f : α → Int → α) (z : α) (b a : Int) : α := foldI (fun x j => f x (b - 1 - j)) z 0 (b - a)
theorem foldD_0 {α : Type} {f : α → Int → α} {z : α} {a b : Int} (h : b ≤ a) : foldD f z b a = z := foldI_0 (by omega)
theorem foldD_s {α : Type} {f : α → Int → α} {z : α} {b k : Int} (h : k ≤ b) : foldD f z b (k - 1) = f (foldD f z b k) (k - 1) := by
  unfold foldD
  rw [show b - (k - 1) = (b - k) + 1 by omega, foldI_s (by omega)]
  congr 1
  omega
theorem foldD_ind {α : Type} {f : α → Int → α} {z : α} {b : Int} (P : Int → α → Prop) (h0 : P b z) (hs : ∀ k x, k ≤ b → P k x → P (k - 1) (f x (k - 1))) : ∀ a, a ≤ b → P a (foldD f z b a) := by
  intro a ha
  have h := foldI_ind (f := fun x j => f x (b - 1 - j)) (z := z) (a := 0) (fun j x => P (b - j) x) (by simpa using h0) (fun k x hk hp => by
    have := hs (b - k) x (by omega) hp
    rw [show b - (k + 1) = b - k - 1 by omega, show b - 1 - k = b - k - 1 by omega]
    exact this) (b - a) (by omega)
  rw [show b - (b - a) = a by omega] at h
  exact h
def b2 (P : Prop) [Decidable P] : Int := if P then 1 else 0
theorem b2_t {P : Prop} [Decidable P] (h : P) : b2 P = 1 := if_pos h
theorem b2_f {P : Prop} [Decidable P] (h : ¬ P) : b2 P = 0 := if_neg h
theorem b2_01 {P : Prop} [Decidable P] : b2 P = 0 ∨ b2 P = 1 := by
  unfold b2
  split
  · exact Or.inr rfl
  · exact Or.inl rfl
theorem b2_ne {P : Prop} [Decidable P] (h : b2 P ≠ 0) : P := by
  unfold b2 at h
  split at h
  · assumption
  · exact absurd rfl h
theorem b2_eq {P : Prop} [Decidable P] (h : b2 P = 0) : ¬ P := by
  unfold b2 at h
  split at h
  · cases h
  · assumption
-- the reference's memory: the object at o, its rows behind it
def mobj (o : Nat) (sv ish ln st : Int) : List AV := [.inr (some (o + 1)), .inr (some (o + 2)), .inr (some (o + 3)), .inl sv, .inr (some (o + 4)), .inl ish, .inr (some (o + 5)), .inl ln, .inr (some (o + 6)), .inr (some (o + 7)), .inr (some (o + 8)), .inl st]
def MM (m : Mem) (o : Nat) (s sp pa : Int → Int) (sv : Int) (sh : Int → Int) (ish : Int) (tx : Int → Int) (ln : Int) (cl bf mk : Int → Int) (st : Int) : Mem := fun a => if a = o then obj 6 (mobj o sv ish ln st) else if a = o + 1 then iar 1870 s else if a = o + 2 then iar 1870 sp else if a = o + 3 then iar 7480 pa else if a = o + 4 then iar 1870 sh else if a = o + 5 then car 60 tx else if a = o + 6 then iar 12 cl else if a = o + 7 then iar 12 bf else if a = o + 8 then iar 17 mk else m a
section
variable {m m2 : Mem} {o : Nat} {s sp pa sh tx cl bf mk : Int → Int} {sv ish ln st : Int}
theorem MM_o : (MM m o s sp pa sv sh ish tx ln cl bf mk st) o = obj 6 (mobj o sv ish ln st) := if_pos rfl
theorem MM_s : (MM m o s sp pa sv sh ish tx ln cl bf mk st) (o + 1) = iar 1870 s := by simp [MM]
theorem MM_sp : (MM m o s sp pa sv sh ish tx ln cl bf mk st) (o + 2) = iar 1870 sp := by simp [MM]
theorem MM_pa : (MM m o s sp pa sv sh ish tx ln cl bf mk st) (o + 3) = iar 7480 pa := by simp [MM]
theorem MM_sh : (MM m o s sp pa sv sh ish tx ln cl bf mk st) (o + 4) = iar 1870 sh := by simp [MM]
theorem MM_tx : (MM m o s sp pa sv sh ish tx ln cl bf mk st) (o + 5) = car 60 tx := by simp [MM]
theorem MM_cl : (MM m o s sp pa sv sh ish tx ln cl bf mk st) (o + 6) = iar 12 cl := by simp [MM]
theorem MM_bf : (MM m o s sp pa sv sh ish tx ln cl bf mk st) (o + 7) = iar 12 bf := by simp [MM]
theorem MM_mk : (MM m o s sp pa sv sh ish tx ln cl bf mk st) (o + 8) = iar 17 mk := by simp [MM]
theorem MM_n {a : Nat} (h : a < o ∨ o + 9 ≤ a) : (MM m o s sp pa sv sh ish tx ln cl bf mk st) a = m a := by
  unfold MM
  rw [if_neg (by omega), if_neg (by omega), if_neg (by omega), if_neg (by omega), if_neg (by omega), if_neg (by omega), if_neg (by omega), if_neg (by omega), if_neg (by omega)]
theorem MM_ext (h0 : m2 o = obj 6 (mobj o sv ish ln st)) (h1 : m2 (o + 1) = iar 1870 s) (h2 : m2 (o + 2) = iar 1870 sp) (h3 : m2 (o + 3) = iar 7480 pa) (h4 : m2 (o + 4) = iar 1870 sh) (h5 : m2 (o + 5) = car 60 tx) (h6 : m2 (o + 6) = iar 12 cl) (h7 : m2 (o + 7) = iar 12 bf) (h8 : m2 (o + 8) = iar 17 mk) (hn : ∀ a, a < o ∨ o + 9 ≤ a → m2 a = m a) : m2 = (MM m o s sp pa sv sh ish tx ln cl bf mk st) := by
  funext a
  by_cases h : a < o ∨ o + 9 ≤ a
  · rw [hn a h, MM_n h]
  · obtain ⟨d, hd⟩ : ∃ d, a = o + d := ⟨a - o, by omega⟩
    subst hd
    have h9 : d < 9 := by omega
    match d, h9 with
    | 0, _ => rw [Nat.add_zero, h0, MM_o]
    | 1, _ => rw [h1, MM_s]
    | 2, _ => rw [h2, MM_sp]
    | 3, _ => rw [h3, MM_pa]
    | 4, _ => rw [h4, MM_sh]
    | 5, _ => rw [h5, MM_tx]
    | 6, _ => rw [h6, MM_cl]
    | 7, _ => rw [h7, MM_bf]
    | 8, _ => rw [h8, MM_mk]
theorem MM_ws {x : Int → Int} : upM (MM m o s sp pa sv sh ish tx ln cl bf mk st) (o + 1) (iar 1870 x) = (MM m o x sp pa sv sh ish tx ln cl bf mk st) := by
  refine MM_ext (by rw [upM_n (by omega), MM_o]) (by rw [upM_s]) (by rw [upM_n (by omega), MM_sp]) (by rw [upM_n (by omega), MM_pa]) (by rw [upM_n (by omega), MM_sh]) (by rw [upM_n (by omega), MM_tx]) (by rw [upM_n (by omega), MM_cl]) (by rw [upM_n (by omega), MM_bf]) (by rw [upM_n (by omega), MM_mk]) (fun a ha => by rw [upM_n (by omega), MM_n ha])
theorem MM_wsp {x : Int → Int} : upM (MM m o s sp pa sv sh ish tx ln cl bf mk st) (o + 2) (iar 1870 x) = (MM m o s x pa sv sh ish tx ln cl bf mk st) := by
  refine MM_ext (by rw [upM_n (by omega), MM_o]) (by rw [upM_n (by omega), MM_s]) (by rw [upM_s]) (by rw [upM_n (by omega), MM_pa]) (by rw [upM_n (by omega), MM_sh]) (by rw [upM_n (by omega), MM_tx]) (by rw [upM_n (by omega), MM_cl]) (by rw [upM_n (by omega), MM_bf]) (by rw [upM_n (by omega), MM_mk]) (fun a ha => by rw [upM_n (by omega), MM_n ha])
theorem MM_wpa {x : Int → Int} : upM (MM m o s sp pa sv sh ish tx ln cl bf mk st) (o + 3) (iar 7480 x) = (MM m o s sp x sv sh ish tx ln cl bf mk st) := by
  refine MM_ext (by rw [upM_n (by omega), MM_o]) (by rw [upM_n (by omega), MM_s]) (by rw [upM_n (by omega), MM_sp]) (by rw [upM_s]) (by rw [upM_n (by omega), MM_sh]) (by rw [upM_n (by omega), MM_tx]) (by rw [upM_n (by omega), MM_cl]) (by rw [upM_n (by omega), MM_bf]) (by rw [upM_n (by omega), MM_mk]) (fun a ha => by rw [upM_n (by omega), MM_n ha])
theorem MM_wsh {x : Int → Int} : upM (MM m o s sp pa sv sh ish tx ln cl bf mk st) (o + 4) (iar 1870 x) = (MM m o s sp pa sv x ish tx ln cl bf mk st) := by
  refine MM_ext (by rw [upM_n (by omega), MM_o]) (by rw [upM_n (by omega), MM_s]) (by rw [upM_n (by omega), MM_sp]) (by rw [upM_n (by omega), MM_pa]) (by rw [upM_s]) (by rw [upM_n (by omega), MM_tx]) (by rw [upM_n (by omega), MM_cl]) (by rw [upM_n (by omega), MM_bf]) (by rw [upM_n (by omega), MM_mk]) (fun a ha => by rw [upM_n (by omega), MM_n ha])
theorem MM_wtx {x : Int → Int} : upM (MM m o s sp pa sv sh ish tx ln cl bf mk st) (o + 5) (car 60 x) = (MM m o s sp pa sv sh ish x ln cl bf mk st) := by
  refine MM_ext (by rw [upM_n (by omega), MM_o]) (by rw [upM_n (by omega), MM_s]) (by rw [upM_n (by omega), MM_sp]) (by rw [upM_n (by omega), MM_pa]) (by rw [upM_n (by omega), MM_sh]) (by rw [upM_s]) (by rw [upM_n (by omega), MM_cl]) (by rw [upM_n (by omega), MM_bf]) (by rw [upM_n (by omega), MM_mk]) (fun a ha => by rw [upM_n (by omega), MM_n ha])
theorem MM_wcl {x : Int → Int} : upM (MM m o s sp pa sv sh ish tx ln cl bf mk st) (o + 6) (iar 12 x) = (MM m o s sp pa sv sh ish tx ln x bf mk st) := by
  refine MM_ext (by rw [upM_n (by omega), MM_o]) (by rw [upM_n (by omega), MM_s]) (by rw [upM_n (by omega), MM_sp]) (by rw [upM_n (by omega), MM_pa]) (by rw [upM_n (by omega), MM_sh]) (by rw [upM_n (by omega), MM_tx]) (by rw [upM_s]) (by rw [upM_n (by omega), MM_bf]) (by rw [upM_n (by omega), MM_mk]) (fun a ha => by rw [upM_n (by omega), MM_n ha])
theorem MM_wbf {x : Int → Int} : upM (MM m o s sp pa sv sh ish tx ln cl bf mk st) (o + 7) (iar 12 x) = (MM m o s sp pa sv sh ish tx ln cl x mk st) := by
  refine MM_ext (by rw [upM_n (by omega), MM_o]) (by rw [upM_n (by omega), MM_s]) (by rw [upM_n (by omega), MM_sp]) (by rw [upM_n (by omega), MM_pa]) (by rw [upM_n (by omega), MM_sh]) (by rw [upM_n (by omega), MM_tx]) (by rw [upM_n (by omega), MM_cl]) (by rw [upM_s]) (by rw [upM_n (by omega), MM_mk]) (fun a ha => by rw [upM_n (by omega), MM_n ha])
theorem MM_wmk {x : Int → Int} : upM (MM m o s sp pa sv sh ish tx ln cl bf mk st) (o + 8) (iar 17 x) = (MM m o s sp pa sv sh ish tx ln cl bf x st) := by
  refine MM_ext (by rw [upM_n (by omega), MM_o]) (by rw [upM_n (by omega), MM_s]) (by rw [upM_n (by omega), MM_sp]) (by rw [upM_n (by omega), MM_pa]) (by rw [upM_n (by omega), MM_sh]) (by rw [upM_n (by omega), MM_tx]) (by rw [upM_n (by omega), MM_cl]) (by rw [upM_n (by omega), MM_bf]) (by rw [upM_s]) (fun a ha => by rw [upM_n (by omega), MM_n ha])
theorem MM_wsv {z : Int} : upM (MM m o s sp pa sv sh ish tx ln cl bf mk st) o (obj 6 ((mobj o sv ish ln st).set 3 (.inl z))) = (MM m o s sp pa z sh ish tx ln cl bf mk st) := by
  refine MM_ext (by rw [upM_s]; rfl) (by rw [upM_n (by omega), MM_s]) (by rw [upM_n (by omega), MM_sp]) (by rw [upM_n (by omega), MM_pa]) (by rw [upM_n (by omega), MM_sh]) (by rw [upM_n (by omega), MM_tx]) (by rw [upM_n (by omega), MM_cl]) (by rw [upM_n (by omega), MM_bf]) (by rw [upM_n (by omega), MM_mk]) (fun a ha => by rw [upM_n (by omega), MM_n ha])
theorem MM_wish {z : Int} : upM (MM m o s sp pa sv sh ish tx ln cl bf mk st) o (obj 6 ((mobj o sv ish ln st).set 5 (.inl z))) = (MM m o s sp pa sv sh z tx ln cl bf mk st) := by
  refine MM_ext (by rw [upM_s]; rfl) (by rw [upM_n (by omega), MM_s]) (by rw [upM_n (by omega), MM_sp]) (by rw [upM_n (by omega), MM_pa]) (by rw [upM_n (by omega), MM_sh]) (by rw [upM_n (by omega), MM_tx]) (by rw [upM_n (by omega), MM_cl]) (by rw [upM_n (by omega), MM_bf]) (by rw [upM_n (by omega), MM_mk]) (fun a ha => by rw [upM_n (by omega), MM_n ha])
theorem MM_wln {z : Int} : upM (MM m o s sp pa sv sh ish tx ln cl bf mk st) o (obj 6 ((mobj o sv ish ln st).set 7 (.inl z))) = (MM m o s sp pa sv sh ish tx z cl bf mk st) := by
  refine MM_ext (by rw [upM_s]; rfl) (by rw [upM_n (by omega), MM_s]) (by rw [upM_n (by omega), MM_sp]) (by rw [upM_n (by omega), MM_pa]) (by rw [upM_n (by omega), MM_sh]) (by rw [upM_n (by omega), MM_tx]) (by rw [upM_n (by omega), MM_cl]) (by rw [upM_n (by omega), MM_bf]) (by rw [upM_n (by omega), MM_mk]) (fun a ha => by rw [upM_n (by omega), MM_n ha])
theorem MM_wst {z : Int} : upM (MM m o s sp pa sv sh ish tx ln cl bf mk st) o (obj 6 ((mobj o sv ish ln st).set 11 (.inl z))) = (MM m o s sp pa sv sh ish tx ln cl bf mk z) := by
  refine MM_ext (by rw [upM_s]; rfl) (by rw [upM_n (by omega), MM_s]) (by rw [upM_n (by omega), MM_sp]) (by rw [upM_n (by omega), MM_pa]) (by rw [upM_n (by omega), MM_sh]) (by rw [upM_n (by omega), MM_tx]) (by rw [upM_n (by omega), MM_cl]) (by rw [upM_n (by omega), MM_bf]) (by rw [upM_n (by omega), MM_mk]) (fun a ha => by rw [upM_n (by omega), MM_n ha])
end
section
variable {G : GX} {y : MK} {R : Room} {Qf : QF} {pc pc' : Nat} {L : List (Option AV)} {S : List AV} {sz : Nat} {m : Mem} {k n o : Nat} {s sp pa sh tx cl bf mk : Int → Int} {sv ish ln st : Int}
theorem M.gf {idx j : Nat} {fin : Bool} {ty : FieldType} {v : AV} (h : At y pc (.getfield idx) 3 pc') (hf : FL y.1.cls idx 6 j fin ty) (hv : (mobj o sv ish ln st)[j]? = some v) (kk : V G y R Qf pc' L (v :: S) sz (MM m o s sp pa sv sh ish tx ln cl bf mk st) k n) : V G y R Qf pc L (.inr (some o) :: S) sz (MM m o s sp pa sv sh ish tx ln cl bf mk st) k n := V.getf h hf MM_o hv kk
theorem M.lds {i : Int} (h : At y pc .iaload 1 pc') (h0 : 0 ≤ i ∧ i < 1870) (kk : V G y R Qf pc' L (.inl (s i) :: S) sz (MM m o s sp pa sv sh ish tx ln cl bf mk st) k n) : V G y R Qf pc L (.inl i :: .inr (some (o + 1)) :: S) sz (MM m o s sp pa sv sh ish tx ln cl bf mk st) k n := V.iald h MM_s h0.1 h0.2 kk
theorem M.sts {i x : Int} (h : At y pc .iastore 1 pc') (h0 : 0 ≤ i ∧ i < 1870) (kk : V G y R Qf pc' L S sz (MM m o (upI s i x) sp pa sv sh ish tx ln cl bf mk st) k n) : V G y R Qf pc L (.inl x :: .inl i :: .inr (some (o + 1)) :: S) sz (MM m o s sp pa sv sh ish tx ln cl bf mk st) k n := V.iast h MM_s h0.1 h0.2 (V.mem MM_ws.symm kk)
theorem M.kns (kk : (∀ i : Int, 0 ≤ i → i < 1870 → inR (s i)) → V G y R Qf pc L S sz (MM m o s sp pa sv sh ish tx ln cl bf mk st) k n) : V G y R Qf pc L S sz (MM m o s sp pa sv sh ish tx ln cl bf mk st) k n := V.knowI MM_s kk
theorem M.ldsp {i : Int} (h : At y pc .iaload 1 pc') (h0 : 0 ≤ i ∧ i < 1870) (kk : V G y R Qf pc' L (.inl (sp i) :: S) sz (MM m o s sp pa sv sh ish tx ln cl bf mk st) k n) : V G y R Qf pc L (.inl i :: .inr (some (o + 2)) :: S) sz (MM m o s sp pa sv sh ish tx ln cl bf mk st) k n := V.iald h MM_sp h0.1 h0.2 kk
theorem M.stsp {i x : Int} (h : At y pc .iastore 1 pc') (h0 : 0 ≤ i ∧ i < 1870) (kk : V G y R Qf pc' L S sz (MM m o s (upI sp i x) pa sv sh ish tx ln cl bf mk st) k n) : V G y R Qf pc L (.inl x :: .inl i :: .inr (some (o + 2)) :: S) sz (MM m o s sp pa sv sh ish tx ln cl bf mk st) k n := V.iast h MM_sp h0.1 h0.2 (V.mem MM_wsp.symm kk)
theorem M.knsp (kk : (∀ i : Int, 0 ≤ i → i < 1870 → inR (sp i)) → V G y R Qf pc L S sz (MM m o s sp pa sv sh ish tx ln cl bf mk st) k n) : V G y R Qf pc L S sz (MM m o s sp pa sv sh ish tx ln cl bf mk st) k n := V.knowI MM_sp kk
theorem M.ldpa {i : Int} (h : At y pc .iaload 1 pc') (h0 : 0 ≤ i ∧ i < 7480) (kk : V G y R Qf pc' L (.inl (pa i) :: S) sz (MM m o s sp pa sv sh ish tx ln cl bf mk st) k n) : V G y R Qf pc L (.inl i :: .inr (some (o + 3)) :: S) sz (MM m o s sp pa sv sh ish tx ln cl bf mk st) k n := V.iald h MM_pa h0.1 h0.2 kk
theorem M.stpa {i x : Int} (h : At y pc .iastore 1 pc') (h0 : 0 ≤ i ∧ i < 7480) (kk : V G y R Qf pc' L S sz (MM m o s sp (upI pa i x) sv sh ish tx ln cl bf mk st) k n) : V G y R Qf pc L (.inl x :: .inl i :: .inr (some (o + 3)) :: S) sz (MM m o s sp pa sv sh ish tx ln cl bf mk st) k n := V.iast h MM_pa h0.1 h0.2 (V.mem MM_wpa.symm kk)
theorem M.knpa (kk : (∀ i : Int, 0 ≤ i → i < 7480 → inR (pa i)) → V G y R Qf pc L S sz (MM m o s sp pa sv sh ish tx ln cl bf mk st) k n) : V G y R Qf pc L S sz (MM m o s sp pa sv sh ish tx ln cl bf mk st) k n := V.knowI MM_pa kk
theorem M.pfsv {idx : Nat} {z : Int} (h : At y pc (.putfield idx) 3 pc') (hf : FL y.1.cls idx 6 3 false .int) (kk : V G y R Qf pc' L S sz (MM m o s sp pa z sh ish tx ln cl bf mk st) k n) : V G y R Qf pc L (.inl z :: .inr (some o) :: S) sz (MM m o s sp pa sv sh ish tx ln cl bf mk st) k n := V.putf h hf MM_o (Nat.le_of_ble_eq_true rfl) rfl rfl (V.mem MM_wsv.symm kk)
theorem M.ldsh {i : Int} (h : At y pc .iaload 1 pc') (h0 : 0 ≤ i ∧ i < 1870) (kk : V G y R Qf pc' L (.inl (sh i) :: S) sz (MM m o s sp pa sv sh ish tx ln cl bf mk st) k n) : V G y R Qf pc L (.inl i :: .inr (some (o + 4)) :: S) sz (MM m o s sp pa sv sh ish tx ln cl bf mk st) k n := V.iald h MM_sh h0.1 h0.2 kk
theorem M.stsh {i x : Int} (h : At y pc .iastore 1 pc') (h0 : 0 ≤ i ∧ i < 1870) (kk : V G y R Qf pc' L S sz (MM m o s sp pa sv (upI sh i x) ish tx ln cl bf mk st) k n) : V G y R Qf pc L (.inl x :: .inl i :: .inr (some (o + 4)) :: S) sz (MM m o s sp pa sv sh ish tx ln cl bf mk st) k n := V.iast h MM_sh h0.1 h0.2 (V.mem MM_wsh.symm kk)
theorem M.knsh (kk : (∀ i : Int, 0 ≤ i → i < 1870 → inR (sh i)) → V G y R Qf pc L S sz (MM m o s sp pa sv sh ish tx ln cl bf mk st) k n) : V G y R Qf pc L S sz (MM m o s sp pa sv sh ish tx ln cl bf mk st) k n := V.knowI MM_sh kk
theorem M.pfish {idx : Nat} {z : Int} (h : At y pc (.putfield idx) 3 pc') (hf : FL y.1.cls idx 6 5 false .boolean) (hz : z = 0 ∨ z = 1) (kk : V G y R Qf pc' L S sz (MM m o s sp pa sv sh z tx ln cl bf mk st) k n) : V G y R Qf pc L (.inl z :: .inr (some o) :: S) sz (MM m o s sp pa sv sh ish tx ln cl bf mk st) k n := V.putf h hf MM_o (Nat.le_of_ble_eq_true rfl) (by rcases hz with rfl | rfl <;> rfl) (by rcases hz with rfl | rfl <;> rfl) (V.mem MM_wish.symm kk)
theorem M.ldtx {i : Int} (h : At y pc .caload 1 pc') (h0 : 0 ≤ i ∧ i < 60) (kk : V G y R Qf pc' L (.inl (tx i) :: S) sz (MM m o s sp pa sv sh ish tx ln cl bf mk st) k n) : V G y R Qf pc L (.inl i :: .inr (some (o + 5)) :: S) sz (MM m o s sp pa sv sh ish tx ln cl bf mk st) k n := V.cald h MM_tx h0.1 h0.2 kk
theorem M.sttx {i x : Int} (h : At y pc .castore 1 pc') (h0 : 0 ≤ i ∧ i < 60) (hx : 0 ≤ x ∧ x < 65536) (kk : V G y R Qf pc' L S sz (MM m o s sp pa sv sh ish (upI tx i x) ln cl bf mk st) k n) : V G y R Qf pc L (.inl x :: .inl i :: .inr (some (o + 5)) :: S) sz (MM m o s sp pa sv sh ish tx ln cl bf mk st) k n := V.cast h MM_tx h0.1 h0.2 hx.1 hx.2 (V.mem MM_wtx.symm kk)
theorem M.pfln {idx : Nat} {z : Int} (h : At y pc (.putfield idx) 3 pc') (hf : FL y.1.cls idx 6 7 false .int) (kk : V G y R Qf pc' L S sz (MM m o s sp pa sv sh ish tx z cl bf mk st) k n) : V G y R Qf pc L (.inl z :: .inr (some o) :: S) sz (MM m o s sp pa sv sh ish tx ln cl bf mk st) k n := V.putf h hf MM_o (Nat.le_of_ble_eq_true rfl) rfl rfl (V.mem MM_wln.symm kk)
theorem M.ldcl {i : Int} (h : At y pc .iaload 1 pc') (h0 : 0 ≤ i ∧ i < 12) (kk : V G y R Qf pc' L (.inl (cl i) :: S) sz (MM m o s sp pa sv sh ish tx ln cl bf mk st) k n) : V G y R Qf pc L (.inl i :: .inr (some (o + 6)) :: S) sz (MM m o s sp pa sv sh ish tx ln cl bf mk st) k n := V.iald h MM_cl h0.1 h0.2 kk
theorem M.stcl {i x : Int} (h : At y pc .iastore 1 pc') (h0 : 0 ≤ i ∧ i < 12) (kk : V G y R Qf pc' L S sz (MM m o s sp pa sv sh ish tx ln (upI cl i x) bf mk st) k n) : V G y R Qf pc L (.inl x :: .inl i :: .inr (some (o + 6)) :: S) sz (MM m o s sp pa sv sh ish tx ln cl bf mk st) k n := V.iast h MM_cl h0.1 h0.2 (V.mem MM_wcl.symm kk)
theorem M.kncl (kk : (∀ i : Int, 0 ≤ i → i < 12 → inR (cl i)) → V G y R Qf pc L S sz (MM m o s sp pa sv sh ish tx ln cl bf mk st) k n) : V G y R Qf pc L S sz (MM m o s sp pa sv sh ish tx ln cl bf mk st) k n := V.knowI MM_cl kk
theorem M.ldbf {i : Int} (h : At y pc .iaload 1 pc') (h0 : 0 ≤ i ∧ i < 12) (kk : V G y R Qf pc' L (.inl (bf i) :: S) sz (MM m o s sp pa sv sh ish tx ln cl bf mk st) k n) : V G y R Qf pc L (.inl i :: .inr (some (o + 7)) :: S) sz (MM m o s sp pa sv sh ish tx ln cl bf mk st) k n := V.iald h MM_bf h0.1 h0.2 kk
theorem M.stbf {i x : Int} (h : At y pc .iastore 1 pc') (h0 : 0 ≤ i ∧ i < 12) (kk : V G y R Qf pc' L S sz (MM m o s sp pa sv sh ish tx ln cl (upI bf i x) mk st) k n) : V G y R Qf pc L (.inl x :: .inl i :: .inr (some (o + 7)) :: S) sz (MM m o s sp pa sv sh ish tx ln cl bf mk st) k n := V.iast h MM_bf h0.1 h0.2 (V.mem MM_wbf.symm kk)
theorem M.knbf (kk : (∀ i : Int, 0 ≤ i → i < 12 → inR (bf i)) → V G y R Qf pc L S sz (MM m o s sp pa sv sh ish tx ln cl bf mk st) k n) : V G y R Qf pc L S sz (MM m o s sp pa sv sh ish tx ln cl bf mk st) k n := V.knowI MM_bf kk
theorem M.ldmk {i : Int} (h : At y pc .iaload 1 pc') (h0 : 0 ≤ i ∧ i < 17) (kk : V G y R Qf pc' L (.inl (mk i) :: S) sz (MM m o s sp pa sv sh ish tx ln cl bf mk st) k n) : V G y R Qf pc L (.inl i :: .inr (some (o + 8)) :: S) sz (MM m o s sp pa sv sh ish tx ln cl bf mk st) k n := V.iald h MM_mk h0.1 h0.2 kk
theorem M.stmk {i x : Int} (h : At y pc .iastore 1 pc') (h0 : 0 ≤ i ∧ i < 17) (kk : V G y R Qf pc' L S sz (MM m o s sp pa sv sh ish tx ln cl bf (upI mk i x) st) k n) : V G y R Qf pc L (.inl x :: .inl i :: .inr (some (o + 8)) :: S) sz (MM m o s sp pa sv sh ish tx ln cl bf mk st) k n := V.iast h MM_mk h0.1 h0.2 (V.mem MM_wmk.symm kk)
theorem M.knmk (kk : (∀ i : Int, 0 ≤ i → i < 17 → inR (mk i)) → V G y R Qf pc L S sz (MM m o s sp pa sv sh ish tx ln cl bf mk st) k n) : V G y R Qf pc L S sz (MM m o s sp pa sv sh ish tx ln cl bf mk st) k n := V.knowI MM_mk kk
theorem M.pfst {idx : Nat} {z : Int} (h : At y pc (.putfield idx) 3 pc') (hf : FL y.1.cls idx 6 11 false .int) (kk : V G y R Qf pc' L S sz (MM m o s sp pa sv sh ish tx ln cl bf mk z) k n) : V G y R Qf pc L (.inl z :: .inr (some o) :: S) sz (MM m o s sp pa sv sh ish tx ln cl bf mk st) k n := V.putf h hf MM_o (Nat.le_of_ble_eq_true rfl) rfl rfl (V.mem MM_wst.symm kk)
theorem M.kntx (kk : (∀ i : Int, 0 ≤ i → i < 60 → 0 ≤ tx i ∧ tx i < 65536) → V G y R Qf pc L S sz (MM m o s sp pa sv sh ish tx ln cl bf mk st) k n) : V G y R Qf pc L S sz (MM m o s sp pa sv sh ish tx ln cl bf mk st) k n := V.knowC MM_tx kk
theorem M.know (kk : (∀ z : Int, .inl z ∈ (mobj o sv ish ln st) → inR z) → V G y R Qf pc L S sz (MM m o s sp pa sv sh ish tx ln cl bf mk st) k n) : V G y R Qf pc L S sz (MM m o s sp pa sv sh ish tx ln cl bf mk st) k n := V.knowO MM_o (fun h => kk (fun z hz => h _ hz))
end
