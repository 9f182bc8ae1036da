-- the class's memory: a state is a block of 22 cells
def r12 (s : Int → Int) (a : Int) : Int → Int := fun k => if 0 ≤ k ∧ k < 12 then s (a + k) else 0
theorem r12_in {s : Int → Int} {a k : Int} (h : 0 ≤ k ∧ k < 12) : r12 s a k = s (a + k) := if_pos h
theorem r12_out {s : Int → Int} {a k : Int} (h : ¬ (0 ≤ k ∧ k < 12)) : r12 s a k = 0 := if_neg h
theorem r12_congr {s t : Int → Int} {a b : Int} (h : ∀ j, 0 ≤ j → j < 12 → t (b + j) = s (a + j)) : r12 t b = r12 s a := by
  funext k
  unfold r12
  split
  · exact h k (by omega) (by omega)
  · rfl
def dr (s : Int → Int) (p : Int) : Int := if s (164 + p) = -5 then 0 else s (164 + p) + 1
def undr (z : Int) : Int := if z = 0 then -5 else z - 1
def pgs (B : Nat) : Int → Option Nat := fun p => if 0 ≤ p ∧ p < 6 then some (B + 4 + 3 * p.toNat) else none
theorem pgs_in {B : Nat} {p : Int} (h : 0 ≤ p ∧ p < 6) : pgs B p = some (B + 4 + 3 * p.toNat) := if_pos h
def sobj (B : Nat) (s : Int → Int) : List AV := [.inr (some (B + 1)), .inr (some (B + 2)), .inl (s 0), .inl (s 5), .inl (s 6), .inl (s 7)]
def lobj (B : Nat) (s : Int → Int) : List AV := [.inr (some (B + 3)), .inl (s 2), .inl (s 3 - s 2), .inl (s 4), .inl (s 1)]
def pobj (B : Nat) (s : Int → Int) (p : Int) : List AV := [.inr (some (B + 5 + 3 * p.toNat)), .inr (some (B + 6 + 3 * p.toNat)), .inl (s (152 + p)), .inl (s (158 + p)), .inl (dr s p)]
def BM (m : Mem) (B : Nat) (s : Int → Int) (g : Int → Option Nat) : Mem := fun a => if a < B ∨ B + 22 ≤ a then m a else if a = B then obj 4 (sobj B s) else if a = B + 1 then rar 2 6 (pgs B) else if a = B + 2 then obj 1 (lobj B s) else if a = B + 3 then rar 0 100 g else
  if (a - (B + 4)) % 3 = 0 then obj 2 (pobj B s (((a - (B + 4)) / 3 : Nat) : Int)) else if (a - (B + 4)) % 3 = 1 then iar 12 (r12 s (8 + 12 * (((a - (B + 4)) / 3 : Nat) : Int))) else iar 12 (r12 s (80 + 12 * (((a - (B + 4)) / 3 : Nat) : Int)))
section
variable {m m2 : Mem} {B : Nat} {s t : Int → Int} {g : Int → Option Nat} {p q : Int}
theorem BM_n {a : Nat} (h : a < B ∨ B + 22 ≤ a) : BM m B s g a = m a := if_pos h
theorem BM_S : BM m B s g B = obj 4 (sobj B s) := by
  unfold BM
  rw [if_neg (by omega), if_pos rfl]
theorem BM_P : BM m B s g (B + 1) = rar 2 6 (pgs B) := by
  unfold BM
  rw [if_neg (by omega), if_neg (by omega), if_pos rfl]
theorem BM_L : BM m B s g (B + 2) = obj 1 (lobj B s) := by
  unfold BM
  rw [if_neg (by omega), if_neg (by omega), if_neg (by omega), if_pos rfl]
theorem BM_E : BM m B s g (B + 3) = rar 0 100 g := by
  unfold BM
  rw [if_neg (by omega), if_neg (by omega), if_neg (by omega), if_neg (by omega), if_pos rfl]
theorem BM_p (h : 0 ≤ p ∧ p < 6) : BM m B s g (B + 4 + 3 * p.toNat) = obj 2 (pobj B s p) := by
  unfold BM
  rw [if_neg (by omega), if_neg (by omega), if_neg (by omega), if_neg (by omega), if_neg (by omega), if_pos (by omega)]
  have e : (((B + 4 + 3 * p.toNat - (B + 4)) / 3 : Nat) : Int) = p := by omega
  rw [e]
theorem BM_c (h : 0 ≤ p ∧ p < 6) : BM m B s g (B + 5 + 3 * p.toNat) = iar 12 (r12 s (8 + 12 * p)) := by
  unfold BM
  rw [if_neg (by omega), if_neg (by omega), if_neg (by omega), if_neg (by omega), if_neg (by omega), if_neg (by omega), if_pos (by omega)]
  have e : (((B + 5 + 3 * p.toNat - (B + 4)) / 3 : Nat) : Int) = p := by omega
  rw [e]
theorem BM_k (h : 0 ≤ p ∧ p < 6) : BM m B s g (B + 6 + 3 * p.toNat) = iar 12 (r12 s (80 + 12 * p)) := by
  unfold BM
  rw [if_neg (by omega), if_neg (by omega), if_neg (by omega), if_neg (by omega), if_neg (by omega), if_neg (by omega), if_neg (by omega)]
  have e : (((B + 6 + 3 * p.toNat - (B + 4)) / 3 : Nat) : Int) = p := by omega
  rw [e]
theorem BM_ext (hS : m2 B = obj 4 (sobj B s)) (hP : m2 (B + 1) = rar 2 6 (pgs B)) (hL : m2 (B + 2) = obj 1 (lobj B s)) (hE : m2 (B + 3) = rar 0 100 g) (hp : ∀ q : Int, 0 ≤ q ∧ q < 6 → m2 (B + 4 + 3 * q.toNat) = obj 2 (pobj B s q)) (hc : ∀ q : Int, 0 ≤ q ∧ q < 6 → m2 (B + 5 + 3 * q.toNat) = iar 12 (r12 s (8 + 12 * q))) (hk : ∀ q : Int, 0 ≤ q ∧ q < 6 → m2 (B + 6 + 3 * q.toNat) = iar 12 (r12 s (80 + 12 * q))) (hn : ∀ a, a < B ∨ B + 22 ≤ a → m2 a = m a) : m2 = BM m B s g := by
  funext a
  by_cases h : a < B ∨ B + 22 ≤ a
  · rw [hn a h, BM_n h]
  by_cases h0 : a = B
  · rw [h0, hS, BM_S]
  by_cases h1 : a = B + 1
  · rw [h1, hP, BM_P]
  by_cases h2 : a = B + 2
  · rw [h2, hL, BM_L]
  by_cases h3 : a = B + 3
  · rw [h3, hE, BM_E]
  obtain ⟨i, hi, hi6, r, hr, ha⟩ : ∃ i : Int, 0 ≤ i ∧ i < 6 ∧ ∃ r : Nat, r < 3 ∧ a = B + 4 + 3 * i.toNat + r := ⟨(((a - (B + 4)) / 3 : Nat) : Int), by omega, by omega, (a - (B + 4)) % 3, by omega, by omega⟩
  have hr2 : r = 0 ∨ r = 1 ∨ r = 2 := by omega
  rcases hr2 with rfl | rfl | rfl
  · rw [ha, Nat.add_zero, hp i ⟨hi, hi6⟩, BM_p ⟨hi, hi6⟩]
  · rw [ha, show B + 4 + 3 * i.toNat + 1 = B + 5 + 3 * i.toNat by omega, hc i ⟨hi, hi6⟩, BM_c ⟨hi, hi6⟩]
  · rw [ha, show B + 4 + 3 * i.toNat + 2 = B + 6 + 3 * i.toNat by omega, hk i ⟨hi, hi6⟩, BM_k ⟨hi, hi6⟩]
theorem sobj_congr (h : ∀ j, 0 ≤ j → j < 8 → j ≠ 1 → j ≠ 2 → j ≠ 3 → j ≠ 4 → t j = s j) : sobj B t = sobj B s := by
  unfold sobj
  rw [h 0 (by decide) (by decide) (by decide) (by decide) (by decide) (by decide), h 5 (by decide) (by decide) (by decide) (by decide) (by decide) (by decide), h 6 (by decide) (by decide) (by decide) (by decide) (by decide) (by decide), h 7 (by decide) (by decide) (by decide) (by decide) (by decide) (by decide)]
theorem lobj_congr (h : ∀ j, 1 ≤ j → j < 5 → t j = s j) : lobj B t = lobj B s := by
  unfold lobj
  rw [h 1 (by decide) (by decide), h 2 (by decide) (by decide), h 3 (by decide) (by decide), h 4 (by decide) (by decide)]
theorem pobj_congr (h : ∀ j, 152 ≤ j → j < 170 → j % 6 = (152 + q) % 6 → t j = s j) (hq : 0 ≤ q ∧ q < 6) : pobj B t q = pobj B s q := by
  unfold pobj dr
  rw [h (152 + q) (by omega) (by omega) (by omega), h (158 + q) (by omega) (by omega) (by omega), h (164 + q) (by omega) (by omega) (by omega)]
theorem BM_congr (h : ∀ j, 0 ≤ j → j < 170 → t j = s j) : BM m B t g = BM m B s g := by
  refine BM_ext ?_ ?_ ?_ ?_ ?_ ?_ ?_ ?_
  · rw [BM_S, sobj_congr (fun j h1 h2 _ _ _ _ => h j h1 (by omega))]
  · exact BM_P
  · rw [BM_L, lobj_congr (fun j h1 h2 => h j (by omega) (by omega))]
  · exact BM_E
  · intro q hq
    rw [BM_p hq, pobj_congr (fun j h1 h2 _ => h j (by omega) h2) hq]
  · intro q hq
    rw [BM_c hq, r12_congr (fun j h1 h2 => h _ (by omega) (by omega))]
  · intro q hq
    rw [BM_k hq, r12_congr (fun j h1 h2 => h _ (by omega) (by omega))]
  · intro a ha
    exact BM_n ha
theorem BM_new {z : Nat} {c : AC} (h : B + 22 ≤ z) : upM (BM m B s g) z c = BM (upM m z c) B s g := by
  refine BM_ext (by rw [upM_n (by omega), BM_S]) (by rw [upM_n (by omega), BM_P]) (by rw [upM_n (by omega), BM_L]) (by rw [upM_n (by omega), BM_E]) (fun q hq => by rw [upM_n (by omega), BM_p hq]) (fun q hq => by rw [upM_n (by omega), BM_c hq]) (fun q hq => by rw [upM_n (by omega), BM_k hq]) (fun a ha => ?_)
  by_cases e : a = z
  · subst e
    rw [upM_s, upM_s]
  · rw [upM_n e, upM_n e, BM_n ha]
theorem upI_eq {f : Int → Int} {i j x : Int} (h : j = i) : upI f i x j = x := by
  subst h
  exact upI_s
theorem BM_wS2 {z : Int} : upM (BM m B s g) B (obj 4 ((sobj B s).set 2 (.inl z))) = BM m B (upI s 0 z) g := by
  have e : ∀ j, j ≠ 0 → upI s 0 z j = s j := fun j hj => upI_n hj
  refine BM_ext ?_ (by rw [upM_n (by omega), BM_P]) ?_ (by rw [upM_n (by omega), BM_E]) (fun q hq => ?_) (fun q hq => ?_) (fun q hq => ?_) (fun a ha => by rw [upM_n (by omega), BM_n ha])
  · rw [upM_s]
    unfold sobj
    congr 1
    all_goals simp [upI]
  · rw [upM_n (by omega), BM_L, lobj_congr (t := upI s 0 z) (fun j h1 h2 => e j (by omega))]
  · rw [upM_n (by omega), BM_p hq, pobj_congr (t := upI s 0 z) (fun j h1 h2 _ => e j (by omega)) hq]
  · rw [upM_n (by omega), BM_c hq, r12_congr (t := upI s 0 z) (fun j h1 h2 => e _ (by omega))]
  · rw [upM_n (by omega), BM_k hq, r12_congr (t := upI s 0 z) (fun j h1 h2 => e _ (by omega))]
theorem BM_wS3 {z : Int} : upM (BM m B s g) B (obj 4 ((sobj B s).set 3 (.inl z))) = BM m B (upI s 5 z) g := by
  have e : ∀ j, j ≠ 5 → upI s 5 z j = s j := fun j hj => upI_n hj
  refine BM_ext ?_ (by rw [upM_n (by omega), BM_P]) ?_ (by rw [upM_n (by omega), BM_E]) (fun q hq => ?_) (fun q hq => ?_) (fun q hq => ?_) (fun a ha => by rw [upM_n (by omega), BM_n ha])
  · rw [upM_s]
    unfold sobj
    congr 1
    all_goals simp [upI]
  · rw [upM_n (by omega), BM_L, lobj_congr (t := upI s 5 z) (fun j h1 h2 => e j (by omega))]
  · rw [upM_n (by omega), BM_p hq, pobj_congr (t := upI s 5 z) (fun j h1 h2 _ => e j (by omega)) hq]
  · rw [upM_n (by omega), BM_c hq, r12_congr (t := upI s 5 z) (fun j h1 h2 => e _ (by omega))]
  · rw [upM_n (by omega), BM_k hq, r12_congr (t := upI s 5 z) (fun j h1 h2 => e _ (by omega))]
theorem BM_wS4 {z : Int} : upM (BM m B s g) B (obj 4 ((sobj B s).set 4 (.inl z))) = BM m B (upI s 6 z) g := by
  have e : ∀ j, j ≠ 6 → upI s 6 z j = s j := fun j hj => upI_n hj
  refine BM_ext ?_ (by rw [upM_n (by omega), BM_P]) ?_ (by rw [upM_n (by omega), BM_E]) (fun q hq => ?_) (fun q hq => ?_) (fun q hq => ?_) (fun a ha => by rw [upM_n (by omega), BM_n ha])
  · rw [upM_s]
    unfold sobj
    congr 1
    all_goals simp [upI]
  · rw [upM_n (by omega), BM_L, lobj_congr (t := upI s 6 z) (fun j h1 h2 => e j (by omega))]
  · rw [upM_n (by omega), BM_p hq, pobj_congr (t := upI s 6 z) (fun j h1 h2 _ => e j (by omega)) hq]
  · rw [upM_n (by omega), BM_c hq, r12_congr (t := upI s 6 z) (fun j h1 h2 => e _ (by omega))]
  · rw [upM_n (by omega), BM_k hq, r12_congr (t := upI s 6 z) (fun j h1 h2 => e _ (by omega))]
theorem BM_wS5 {z : Int} : upM (BM m B s g) B (obj 4 ((sobj B s).set 5 (.inl z))) = BM m B (upI s 7 z) g := by
  have e : ∀ j, j ≠ 7 → upI s 7 z j = s j := fun j hj => upI_n hj
  refine BM_ext ?_ (by rw [upM_n (by omega), BM_P]) ?_ (by rw [upM_n (by omega), BM_E]) (fun q hq => ?_) (fun q hq => ?_) (fun q hq => ?_) (fun a ha => by rw [upM_n (by omega), BM_n ha])
  · rw [upM_s]
    unfold sobj
    congr 1
    all_goals simp [upI]
  · rw [upM_n (by omega), BM_L, lobj_congr (t := upI s 7 z) (fun j h1 h2 => e j (by omega))]
  · rw [upM_n (by omega), BM_p hq, pobj_congr (t := upI s 7 z) (fun j h1 h2 _ => e j (by omega)) hq]
  · rw [upM_n (by omega), BM_c hq, r12_congr (t := upI s 7 z) (fun j h1 h2 => e _ (by omega))]
  · rw [upM_n (by omega), BM_k hq, r12_congr (t := upI s 7 z) (fun j h1 h2 => e _ (by omega))]
theorem BM_wL1 {z : Int} : upM (BM m B s g) (B + 2) (obj 1 ((lobj B s).set 1 (.inl z))) = BM m B (upI (upI s 2 z) 3 (z + (s 3 - s 2))) g := by
  have e : ∀ j, j < 1 ∨ 4 < j → (upI (upI s 2 z) 3 (z + (s 3 - s 2))) j = s j := fun j hj => by rw [upI_n (by omega), upI_n (by omega)]
  refine BM_ext ?_ (by rw [upM_n (by omega), BM_P]) ?_ (by rw [upM_n (by omega), BM_E]) (fun q hq => ?_) (fun q hq => ?_) (fun q hq => ?_) (fun a ha => by rw [upM_n (by omega), BM_n ha])
  · rw [upM_n (by omega), BM_S, sobj_congr (t := (upI (upI s 2 z) 3 (z + (s 3 - s 2)))) (fun j h1 h2 _ _ _ _ => e j (by omega))]
  · rw [upM_s]
    unfold lobj
    congr 1
    all_goals simp [upI]
    all_goals try omega
  · rw [upM_n (by omega), BM_p hq, pobj_congr (t := (upI (upI s 2 z) 3 (z + (s 3 - s 2)))) (fun j h1 h2 _ => e j (by omega)) hq]
  · rw [upM_n (by omega), BM_c hq, r12_congr (t := (upI (upI s 2 z) 3 (z + (s 3 - s 2)))) (fun j h1 h2 => e _ (by omega))]
  · rw [upM_n (by omega), BM_k hq, r12_congr (t := (upI (upI s 2 z) 3 (z + (s 3 - s 2)))) (fun j h1 h2 => e _ (by omega))]
theorem BM_wL2 {z : Int} : upM (BM m B s g) (B + 2) (obj 1 ((lobj B s).set 2 (.inl z))) = BM m B (upI s 3 (s 2 + z)) g := by
  have e : ∀ j, j < 1 ∨ 4 < j → (upI s 3 (s 2 + z)) j = s j := fun j hj => upI_n (by omega)
  refine BM_ext ?_ (by rw [upM_n (by omega), BM_P]) ?_ (by rw [upM_n (by omega), BM_E]) (fun q hq => ?_) (fun q hq => ?_) (fun q hq => ?_) (fun a ha => by rw [upM_n (by omega), BM_n ha])
  · rw [upM_n (by omega), BM_S, sobj_congr (t := (upI s 3 (s 2 + z))) (fun j h1 h2 _ _ _ _ => e j (by omega))]
  · rw [upM_s]
    unfold lobj
    congr 1
    all_goals simp [upI]
    all_goals try omega
  · rw [upM_n (by omega), BM_p hq, pobj_congr (t := (upI s 3 (s 2 + z))) (fun j h1 h2 _ => e j (by omega)) hq]
  · rw [upM_n (by omega), BM_c hq, r12_congr (t := (upI s 3 (s 2 + z))) (fun j h1 h2 => e _ (by omega))]
  · rw [upM_n (by omega), BM_k hq, r12_congr (t := (upI s 3 (s 2 + z))) (fun j h1 h2 => e _ (by omega))]
theorem BM_wL3 {z : Int} : upM (BM m B s g) (B + 2) (obj 1 ((lobj B s).set 3 (.inl z))) = BM m B (upI s 4 z) g := by
  have e : ∀ j, j < 1 ∨ 4 < j → (upI s 4 z) j = s j := fun j hj => upI_n (by omega)
  refine BM_ext ?_ (by rw [upM_n (by omega), BM_P]) ?_ (by rw [upM_n (by omega), BM_E]) (fun q hq => ?_) (fun q hq => ?_) (fun q hq => ?_) (fun a ha => by rw [upM_n (by omega), BM_n ha])
  · rw [upM_n (by omega), BM_S, sobj_congr (t := (upI s 4 z)) (fun j h1 h2 _ _ _ _ => e j (by omega))]
  · rw [upM_s]
    unfold lobj
    congr 1
    all_goals simp [upI]
    all_goals try omega
  · rw [upM_n (by omega), BM_p hq, pobj_congr (t := (upI s 4 z)) (fun j h1 h2 _ => e j (by omega)) hq]
  · rw [upM_n (by omega), BM_c hq, r12_congr (t := (upI s 4 z)) (fun j h1 h2 => e _ (by omega))]
  · rw [upM_n (by omega), BM_k hq, r12_congr (t := (upI s 4 z)) (fun j h1 h2 => e _ (by omega))]
theorem BM_wL4 {z : Int} : upM (BM m B s g) (B + 2) (obj 1 ((lobj B s).set 4 (.inl z))) = BM m B (upI s 1 z) g := by
  have e : ∀ j, j < 1 ∨ 4 < j → (upI s 1 z) j = s j := fun j hj => upI_n (by omega)
  refine BM_ext ?_ (by rw [upM_n (by omega), BM_P]) ?_ (by rw [upM_n (by omega), BM_E]) (fun q hq => ?_) (fun q hq => ?_) (fun q hq => ?_) (fun a ha => by rw [upM_n (by omega), BM_n ha])
  · rw [upM_n (by omega), BM_S, sobj_congr (t := (upI s 1 z)) (fun j h1 h2 _ _ _ _ => e j (by omega))]
  · rw [upM_s]
    unfold lobj
    congr 1
    all_goals simp [upI]
    all_goals try omega
  · rw [upM_n (by omega), BM_p hq, pobj_congr (t := (upI s 1 z)) (fun j h1 h2 _ => e j (by omega)) hq]
  · rw [upM_n (by omega), BM_c hq, r12_congr (t := (upI s 1 z)) (fun j h1 h2 => e _ (by omega))]
  · rw [upM_n (by omega), BM_k hq, r12_congr (t := (upI s 1 z)) (fun j h1 h2 => e _ (by omega))]
theorem BM_wE {f : Int → Option Nat} : upM (BM m B s g) (B + 3) (rar 0 100 f) = BM m B s f := by
  refine BM_ext (by rw [upM_n (by omega), BM_S]) (by rw [upM_n (by omega), BM_P]) (by rw [upM_n (by omega), BM_L]) (by rw [upM_s]) (fun q hq => by rw [upM_n (by omega), BM_p hq]) (fun q hq => by rw [upM_n (by omega), BM_c hq]) (fun q hq => by rw [upM_n (by omega), BM_k hq]) (fun a ha => by rw [upM_n (by omega), BM_n ha])
theorem BM_wP2 {z : Int} (h : 0 ≤ p ∧ p < 6) : upM (BM m B s g) (B + 4 + 3 * p.toNat) (obj 2 ((pobj B s p).set 2 (.inl z))) = BM m B (upI s (152 + p) z) g := by
  have e : ∀ j, j ≠ 152 + p → upI s (152 + p) z j = s j := fun j hj => upI_n hj
  refine BM_ext ?_ (by rw [upM_n (by omega), BM_P]) ?_ (by rw [upM_n (by omega), BM_E]) (fun q hq => ?_) (fun q hq => ?_) (fun q hq => ?_) (fun a ha => by rw [upM_n (by omega), BM_n ha])
  · rw [upM_n (by omega), BM_S, sobj_congr (t := upI s (152 + p) z) (fun j h1 h2 _ _ _ _ => e j (by omega))]
  · rw [upM_n (by omega), BM_L, lobj_congr (t := upI s (152 + p) z) (fun j h1 h2 => e j (by omega))]
  · by_cases hqp : q = p
    · subst hqp
      rw [upM_s]
      unfold pobj dr
      congr 1
      have e1 : upI s (152 + q) z (152 + q) = z := upI_s
      rw [e1, e (158 + q) (by omega), e (164 + q) (by omega)]
      rfl
    · rw [upM_n (by omega), BM_p hq, pobj_congr (t := upI s (152 + p) z) (fun j h1 h2 h3 => e j (by omega)) hq]
  · rw [upM_n (by omega), BM_c hq, r12_congr (t := upI s (152 + p) z) (fun j h1 h2 => e _ (by omega))]
  · rw [upM_n (by omega), BM_k hq, r12_congr (t := upI s (152 + p) z) (fun j h1 h2 => e _ (by omega))]
theorem BM_wP3 {z : Int} (h : 0 ≤ p ∧ p < 6) : upM (BM m B s g) (B + 4 + 3 * p.toNat) (obj 2 ((pobj B s p).set 3 (.inl z))) = BM m B (upI s (158 + p) z) g := by
  have e : ∀ j, j ≠ 158 + p → upI s (158 + p) z j = s j := fun j hj => upI_n hj
  refine BM_ext ?_ (by rw [upM_n (by omega), BM_P]) ?_ (by rw [upM_n (by omega), BM_E]) (fun q hq => ?_) (fun q hq => ?_) (fun q hq => ?_) (fun a ha => by rw [upM_n (by omega), BM_n ha])
  · rw [upM_n (by omega), BM_S, sobj_congr (t := upI s (158 + p) z) (fun j h1 h2 _ _ _ _ => e j (by omega))]
  · rw [upM_n (by omega), BM_L, lobj_congr (t := upI s (158 + p) z) (fun j h1 h2 => e j (by omega))]
  · by_cases hqp : q = p
    · subst hqp
      rw [upM_s]
      unfold pobj dr
      congr 1
      have e1 : upI s (158 + q) z (158 + q) = z := upI_s
      rw [e1, e (152 + q) (by omega), e (164 + q) (by omega)]
      rfl
    · rw [upM_n (by omega), BM_p hq, pobj_congr (t := upI s (158 + p) z) (fun j h1 h2 h3 => e j (by omega)) hq]
  · rw [upM_n (by omega), BM_c hq, r12_congr (t := upI s (158 + p) z) (fun j h1 h2 => e _ (by omega))]
  · rw [upM_n (by omega), BM_k hq, r12_congr (t := upI s (158 + p) z) (fun j h1 h2 => e _ (by omega))]
theorem BM_wP4 {z : Int} (hz : 0 ≤ z) (h : 0 ≤ p ∧ p < 6) : upM (BM m B s g) (B + 4 + 3 * p.toNat) (obj 2 ((pobj B s p).set 4 (.inl z))) = BM m B (upI s (164 + p) (undr z)) g := by
  have e : ∀ j, j ≠ 164 + p → upI s (164 + p) (undr z) j = s j := fun j hj => upI_n hj
  refine BM_ext ?_ (by rw [upM_n (by omega), BM_P]) ?_ (by rw [upM_n (by omega), BM_E]) (fun q hq => ?_) (fun q hq => ?_) (fun q hq => ?_) (fun a ha => by rw [upM_n (by omega), BM_n ha])
  · rw [upM_n (by omega), BM_S, sobj_congr (t := upI s (164 + p) (undr z)) (fun j h1 h2 _ _ _ _ => e j (by omega))]
  · rw [upM_n (by omega), BM_L, lobj_congr (t := upI s (164 + p) (undr z)) (fun j h1 h2 => e j (by omega))]
  · by_cases hqp : q = p
    · subst hqp
      rw [upM_s]
      unfold pobj dr
      congr 1
      have e1 : upI s (164 + q) (undr z) (164 + q) = (undr z) := upI_s
      rw [e1, e (152 + q) (by omega), e (158 + q) (by omega)]
      have e2 : (if undr z = -5 then (0 : Int) else undr z + 1) = z := by unfold undr; split <;> split <;> omega
      rw [e2]
      rfl
    · rw [upM_n (by omega), BM_p hq, pobj_congr (t := upI s (164 + p) (undr z)) (fun j h1 h2 h3 => e j (by omega)) hq]
  · rw [upM_n (by omega), BM_c hq, r12_congr (t := upI s (164 + p) (undr z)) (fun j h1 h2 => e _ (by omega))]
  · rw [upM_n (by omega), BM_k hq, r12_congr (t := upI s (164 + p) (undr z)) (fun j h1 h2 => e _ (by omega))]
theorem BM_wc {f : Int → Int} (h : 0 ≤ p ∧ p < 6) (hf : ∀ j, ¬ (0 ≤ j ∧ j < 12) → f j = 0) : upM (BM m B s g) (B + 5 + 3 * p.toNat) (iar 12 f) = BM m B (cpy f 0 s (8 + 12 * p) 12) g := by
  have e : ∀ j, j < 8 + 12 * p ∨ 8 + 12 * p + 12 ≤ j → (cpy f 0 s (8 + 12 * p) 12) j = s j := fun j hj => cpy_out hj
  refine BM_ext ?_ (by rw [upM_n (by omega), BM_P]) ?_ (by rw [upM_n (by omega), BM_E]) (fun q hq => ?_) (fun q hq => ?_) (fun q hq => ?_) (fun a ha => by rw [upM_n (by omega), BM_n ha])
  · rw [upM_n (by omega), BM_S, sobj_congr (t := (cpy f 0 s (8 + 12 * p) 12)) (fun j h1 h2 _ _ _ _ => e j (by omega))]
  · rw [upM_n (by omega), BM_L, lobj_congr (t := (cpy f 0 s (8 + 12 * p) 12)) (fun j h1 h2 => e j (by omega))]
  · rw [upM_n (by omega), BM_p hq, pobj_congr (t := (cpy f 0 s (8 + 12 * p) 12)) (fun j h1 h2 _ => e j (by omega)) hq]
  · by_cases hqp : q = p
    · subst hqp
      rw [upM_s]
      congr 1
      funext k
      by_cases hk : 0 ≤ k ∧ k < 12
      · rw [r12_in hk, cpy_in (by omega)]
        congr 1
        omega
      · rw [r12_out hk, hf k hk]
    · rw [upM_n (by omega), BM_c hq, r12_congr (t := (cpy f 0 s (8 + 12 * p) 12)) (fun j h1 h2 => e _ (by omega))]
  · rw [upM_n (by omega), BM_k hq, r12_congr (t := (cpy f 0 s (8 + 12 * p) 12)) (fun j h1 h2 => e _ (by omega))]
theorem BM_wci {i x : Int} (h : 0 ≤ p ∧ p < 6) (hi : 0 ≤ i ∧ i < 12) : upM (BM m B s g) (B + 5 + 3 * p.toNat) (iar 12 (upI (r12 s (8 + 12 * p)) i x)) = BM m B (upI s (8 + 12 * p + i) x) g := by
  rw [BM_wc h (fun j hj => by rw [upI_n (by omega), r12_out hj])]
  congr 1
  funext j
  by_cases hj : j = 8 + 12 * p + i
  · subst hj
    rw [upI_s, cpy_in (by omega), upI_eq (by omega)]
  · rw [upI_n hj]
    by_cases h2 : 8 + 12 * p ≤ j ∧ j < 8 + 12 * p + 12
    · rw [cpy_in h2, upI_n (by omega), r12_in (by omega)]
      congr 1
      omega
    · rw [cpy_out (by omega)]
theorem BM_wk {f : Int → Int} (h : 0 ≤ p ∧ p < 6) (hf : ∀ j, ¬ (0 ≤ j ∧ j < 12) → f j = 0) : upM (BM m B s g) (B + 6 + 3 * p.toNat) (iar 12 f) = BM m B (cpy f 0 s (80 + 12 * p) 12) g := by
  have e : ∀ j, j < 80 + 12 * p ∨ 80 + 12 * p + 12 ≤ j → (cpy f 0 s (80 + 12 * p) 12) j = s j := fun j hj => cpy_out hj
  refine BM_ext ?_ (by rw [upM_n (by omega), BM_P]) ?_ (by rw [upM_n (by omega), BM_E]) (fun q hq => ?_) (fun q hq => ?_) (fun q hq => ?_) (fun a ha => by rw [upM_n (by omega), BM_n ha])
  · rw [upM_n (by omega), BM_S, sobj_congr (t := (cpy f 0 s (80 + 12 * p) 12)) (fun j h1 h2 _ _ _ _ => e j (by omega))]
  · rw [upM_n (by omega), BM_L, lobj_congr (t := (cpy f 0 s (80 + 12 * p) 12)) (fun j h1 h2 => e j (by omega))]
  · rw [upM_n (by omega), BM_p hq, pobj_congr (t := (cpy f 0 s (80 + 12 * p) 12)) (fun j h1 h2 _ => e j (by omega)) hq]
  · rw [upM_n (by omega), BM_c hq, r12_congr (t := (cpy f 0 s (80 + 12 * p) 12)) (fun j h1 h2 => e _ (by omega))]
  · by_cases hqp : q = p
    · subst hqp
      rw [upM_s]
      congr 1
      funext k
      by_cases hk : 0 ≤ k ∧ k < 12
      · rw [r12_in hk, cpy_in (by omega)]
        congr 1
        omega
      · rw [r12_out hk, hf k hk]
    · rw [upM_n (by omega), BM_k hq, r12_congr (t := (cpy f 0 s (80 + 12 * p) 12)) (fun j h1 h2 => e _ (by omega))]
theorem BM_wki {i x : Int} (h : 0 ≤ p ∧ p < 6) (hi : 0 ≤ i ∧ i < 12) : upM (BM m B s g) (B + 6 + 3 * p.toNat) (iar 12 (upI (r12 s (80 + 12 * p)) i x)) = BM m B (upI s (80 + 12 * p + i) x) g := by
  rw [BM_wk h (fun j hj => by rw [upI_n (by omega), r12_out hj])]
  congr 1
  funext j
  by_cases hj : j = 80 + 12 * p + i
  · subst hj
    rw [upI_s, cpy_in (by omega), upI_eq (by omega)]
  · rw [upI_n hj]
    by_cases h2 : 80 + 12 * p ≤ j ∧ j < 80 + 12 * p + 12
    · rw [cpy_in h2, upI_n (by omega), r12_in (by omega)]
      congr 1
      omega
    · rw [cpy_out (by omega)]
end
section
variable {G : GX} {y : MK} {R : Room} {Qf : QF} {pc pc' : Nat} {L : List (Option AV)} {S : List AV} {sz : Nat} {m : Mem} {k n B : Nat} {s : Int → Int} {g : Int → Option Nat} {p : Int}
theorem U.gfS {idx j : Nat} {fin : Bool} {ty : FieldType} {v : AV} (h : At y pc (.getfield idx) 3 pc') (hf : FL y.1.cls idx 4 j fin ty) (hv : (sobj B s)[j]? = some v) (kk : V G y R Qf pc' L (v :: S) sz (BM m B s g) k n) : V G y R Qf pc L (.inr (some B) :: S) sz (BM m B s g) k n := V.getf h hf BM_S hv kk
theorem U.gfL {idx j : Nat} {fin : Bool} {ty : FieldType} {v : AV} (h : At y pc (.getfield idx) 3 pc') (hf : FL y.1.cls idx 1 j fin ty) (hv : (lobj B s)[j]? = some v) (kk : V G y R Qf pc' L (v :: S) sz (BM m B s g) k n) : V G y R Qf pc L (.inr (some (B + 2)) :: S) sz (BM m B s g) k n := V.getf h hf BM_L hv kk
theorem U.gfP {idx j : Nat} {fin : Bool} {ty : FieldType} {v : AV} (h : At y pc (.getfield idx) 3 pc') (hf : FL y.1.cls idx 2 j fin ty) (hp : 0 ≤ p ∧ p < 6) (hv : (pobj B s p)[j]? = some v) (kk : V G y R Qf pc' L (v :: S) sz (BM m B s g) k n) : V G y R Qf pc L (.inr (some (B + 4 + 3 * p.toNat)) :: S) sz (BM m B s g) k n := V.getf h hf (BM_p hp) hv kk
theorem U.aaP (h : At y pc .aaload 1 pc') (hp : 0 ≤ p ∧ p < 6) (kk : V G y R Qf pc' L (.inr (some (B + 4 + 3 * p.toNat)) :: S) sz (BM m B s g) k n) : V G y R Qf pc L (.inl p :: .inr (some (B + 1)) :: S) sz (BM m B s g) k n := V.aald h BM_P hp.1 hp.2 (by rw [pgs_in hp]; exact kk)
theorem U.aaE {i : Int} (h : At y pc .aaload 1 pc') (hi : 0 ≤ i ∧ i < 100) (kk : V G y R Qf pc' L (.inr (g i) :: S) sz (BM m B s g) k n) : V G y R Qf pc L (.inl i :: .inr (some (B + 3)) :: S) sz (BM m B s g) k n := V.aald h BM_E hi.1 hi.2 kk
theorem U.ldc {i : Int} (h : At y pc .iaload 1 pc') (hp : 0 ≤ p ∧ p < 6) (hi : 0 ≤ i ∧ i < 12) (kk : V G y R Qf pc' L (.inl (s (8 + 12 * p + i)) :: S) sz (BM m B s g) k n) : V G y R Qf pc L (.inl i :: .inr (some (B + 5 + 3 * p.toNat)) :: S) sz (BM m B s g) k n := V.iald h (BM_c hp) hi.1 hi.2 (by rw [r12_in hi]; exact kk)
theorem U.stc {i x : Int} (h : At y pc .iastore 1 pc') (hp : 0 ≤ p ∧ p < 6) (hi : 0 ≤ i ∧ i < 12) (kk : V G y R Qf pc' L S sz (BM m B (upI s (8 + 12 * p + i) x) g) k n) : V G y R Qf pc L (.inl x :: .inl i :: .inr (some (B + 5 + 3 * p.toNat)) :: S) sz (BM m B s g) k n := V.iast h (BM_c hp) hi.1 hi.2 (V.mem (BM_wci hp hi).symm kk)
theorem U.ldk {i : Int} (h : At y pc .iaload 1 pc') (hp : 0 ≤ p ∧ p < 6) (hi : 0 ≤ i ∧ i < 12) (kk : V G y R Qf pc' L (.inl (s (80 + 12 * p + i)) :: S) sz (BM m B s g) k n) : V G y R Qf pc L (.inl i :: .inr (some (B + 6 + 3 * p.toNat)) :: S) sz (BM m B s g) k n := V.iald h (BM_k hp) hi.1 hi.2 (by rw [r12_in hi]; exact kk)
theorem U.stk {i x : Int} (h : At y pc .iastore 1 pc') (hp : 0 ≤ p ∧ p < 6) (hi : 0 ≤ i ∧ i < 12) (kk : V G y R Qf pc' L S sz (BM m B (upI s (80 + 12 * p + i) x) g) k n) : V G y R Qf pc L (.inl x :: .inl i :: .inr (some (B + 6 + 3 * p.toNat)) :: S) sz (BM m B s g) k n := V.iast h (BM_k hp) hi.1 hi.2 (V.mem (BM_wki hp hi).symm kk)
theorem U.pfS2 {idx : Nat} {z : Int} (h : At y pc (.putfield idx) 3 pc') (hf : FL y.1.cls idx 4 2 false .int) (kk : V G y R Qf pc' L S sz (BM m B (upI s 0 z) g) k n) : V G y R Qf pc L (.inl z :: .inr (some B) :: S) sz (BM m B s g) k n := V.putf h hf BM_S (Nat.le_of_ble_eq_true rfl) rfl rfl (V.mem BM_wS2.symm kk)
theorem U.pfS3 {idx : Nat} {z : Int} (h : At y pc (.putfield idx) 3 pc') (hf : FL y.1.cls idx 4 3 false .int) (kk : V G y R Qf pc' L S sz (BM m B (upI s 5 z) g) k n) : V G y R Qf pc L (.inl z :: .inr (some B) :: S) sz (BM m B s g) k n := V.putf h hf BM_S (Nat.le_of_ble_eq_true rfl) rfl rfl (V.mem BM_wS3.symm kk)
theorem U.pfS4 {idx : Nat} {z : Int} (h : At y pc (.putfield idx) 3 pc') (hf : FL y.1.cls idx 4 4 false .int) (kk : V G y R Qf pc' L S sz (BM m B (upI s 6 z) g) k n) : V G y R Qf pc L (.inl z :: .inr (some B) :: S) sz (BM m B s g) k n := V.putf h hf BM_S (Nat.le_of_ble_eq_true rfl) rfl rfl (V.mem BM_wS4.symm kk)
theorem U.pfS5 {idx : Nat} {z : Int} (h : At y pc (.putfield idx) 3 pc') (hf : FL y.1.cls idx 4 5 false .int) (kk : V G y R Qf pc' L S sz (BM m B (upI s 7 z) g) k n) : V G y R Qf pc L (.inl z :: .inr (some B) :: S) sz (BM m B s g) k n := V.putf h hf BM_S (Nat.le_of_ble_eq_true rfl) rfl rfl (V.mem BM_wS5.symm kk)
theorem U.pfL1 {idx : Nat} {z : Int} (h : At y pc (.putfield idx) 3 pc') (hf : FL y.1.cls idx 1 1 false .int) (kk : V G y R Qf pc' L S sz (BM m B (upI (upI s 2 z) 3 (z + (s 3 - s 2))) g) k n) : V G y R Qf pc L (.inl z :: .inr (some (B + 2)) :: S) sz (BM m B s g) k n := V.putf h hf BM_L (Nat.le_of_ble_eq_true rfl) rfl rfl (V.mem BM_wL1.symm kk)
theorem U.pfL2 {idx : Nat} {z : Int} (h : At y pc (.putfield idx) 3 pc') (hf : FL y.1.cls idx 1 2 false .int) (kk : V G y R Qf pc' L S sz (BM m B (upI s 3 (s 2 + z)) g) k n) : V G y R Qf pc L (.inl z :: .inr (some (B + 2)) :: S) sz (BM m B s g) k n := V.putf h hf BM_L (Nat.le_of_ble_eq_true rfl) rfl rfl (V.mem BM_wL2.symm kk)
theorem U.pfL3 {idx : Nat} {z : Int} (h : At y pc (.putfield idx) 3 pc') (hf : FL y.1.cls idx 1 3 false .int) (kk : V G y R Qf pc' L S sz (BM m B (upI s 4 z) g) k n) : V G y R Qf pc L (.inl z :: .inr (some (B + 2)) :: S) sz (BM m B s g) k n := V.putf h hf BM_L (Nat.le_of_ble_eq_true rfl) rfl rfl (V.mem BM_wL3.symm kk)
theorem U.pfL4 {idx : Nat} {z : Int} (h : At y pc (.putfield idx) 3 pc') (hf : FL y.1.cls idx 1 4 false .int) (kk : V G y R Qf pc' L S sz (BM m B (upI s 1 z) g) k n) : V G y R Qf pc L (.inl z :: .inr (some (B + 2)) :: S) sz (BM m B s g) k n := V.putf h hf BM_L (Nat.le_of_ble_eq_true rfl) rfl rfl (V.mem BM_wL4.symm kk)
theorem U.pfP2 {idx : Nat} {z : Int} (h : At y pc (.putfield idx) 3 pc') (hf : FL y.1.cls idx 2 2 false .int) (hp : 0 ≤ p ∧ p < 6) (kk : V G y R Qf pc' L S sz (BM m B (upI s (152 + p) z) g) k n) : V G y R Qf pc L (.inl z :: .inr (some (B + 4 + 3 * p.toNat)) :: S) sz (BM m B s g) k n := V.putf h hf (BM_p hp) (Nat.le_of_ble_eq_true rfl) rfl rfl (V.mem (BM_wP2 hp).symm kk)
theorem U.pfP3 {idx : Nat} {z : Int} (h : At y pc (.putfield idx) 3 pc') (hf : FL y.1.cls idx 2 3 false .boolean) (hz : z = 0 ∨ z = 1) (hp : 0 ≤ p ∧ p < 6) (kk : V G y R Qf pc' L S sz (BM m B (upI s (158 + p) z) g) k n) : V G y R Qf pc L (.inl z :: .inr (some (B + 4 + 3 * p.toNat)) :: S) sz (BM m B s g) k n := V.putf h hf (BM_p hp) (Nat.le_of_ble_eq_true rfl) (by rcases hz with rfl | rfl <;> rfl) (by rcases hz with rfl | rfl <;> rfl) (V.mem (BM_wP3 hp).symm kk)
theorem U.pfP4 {idx : Nat} {z : Int} (h : At y pc (.putfield idx) 3 pc') (hf : FL y.1.cls idx 2 4 false .int) (hz : 0 ≤ z) (hp : 0 ≤ p ∧ p < 6) (kk : V G y R Qf pc' L S sz (BM m B (upI s (164 + p) (undr z)) g) k n) : V G y R Qf pc L (.inl z :: .inr (some (B + 4 + 3 * p.toNat)) :: S) sz (BM m B s g) k n := V.putf h hf (BM_p hp) (Nat.le_of_ble_eq_true rfl) rfl rfl (V.mem (BM_wP4 hz hp).symm kk)
theorem U.stE {i : Int} {r : Option Nat} (h : At y pc .aastore 1 pc') (hi : 0 ≤ i ∧ i < 100) (hv : ∀ v : Nat, r = some v → (v < B ∨ B + 22 ≤ v) ∧ ∃ fs, m v = obj 0 fs) (kk : V G y R Qf pc' L S sz (BM m B s (upI g i r)) k n) : V G y R Qf pc L (.inr r :: .inl i :: .inr (some (B + 3)) :: S) sz (BM m B s g) k n := V.aast h BM_E (by decide) hi.1 hi.2 (fun v hr => by obtain ⟨h1, fs, h2⟩ := hv v hr; exact ⟨fs, by rw [BM_n h1]; exact h2⟩) (V.mem BM_wE.symm kk)
end
