-- what the reference computes, out of its row s (part one: reading)
theorem PI.of {z z2 : Int} {sz : Nat} {m : Mem} (h : z = z2) : PI z2 sz m (some (.inl z)) sz m := ⟨by rw [h], rfl, rfl⟩
theorem PV.of {sz : Nat} {m m2 : Mem} (h : m = m2) : PV sz m2 none sz m := ⟨rfl, rfl, h⟩
theorem V.tsw4 {G : GX} {y : MK} {R : Room} {Qf : QF} {pc pc' : Nat} {L : List (Option AV)} {st : List AV} {sz : Nat} {m : Mem} {k n len : Nat} {z d o0 o1 o2 o3 : Int} (h : At y pc (.tableswitch d 0 3 #[o0, o1, o2, o3]) len pc') {t0 t1 t2 t3 t4 : Nat} (h0 : (pc : Int) + o0 = (t0 : Int)) (h1 : (pc : Int) + o1 = (t1 : Int)) (h2 : (pc : Int) + o2 = (t2 : Int)) (h3 : (pc : Int) + o3 = (t3 : Int)) (h4 : (pc : Int) + d = (t4 : Int)) (k0 : z = 0 → V G y R Qf t0 L st sz m k n) (k1 : z = 1 → V G y R Qf t1 L st sz m k n) (k2 : z = 2 → V G y R Qf t2 L st sz m k n) (k3 : z = 3 → V G y R Qf t3 L st sz m k n) (k4 : z < 0 ∨ 3 < z → V G y R Qf t4 L st sz m k n) : V G y R Qf pc L (.inl z :: st) sz m k n := by
  by_cases c0 : z = 0
  · subst c0
    exact V.tswIn h (by decide) (by decide) rfl h0 (k0 rfl)
  by_cases c1 : z = 1
  · subst c1
    exact V.tswIn h (by decide) (by decide) rfl h1 (k1 rfl)
  by_cases c2 : z = 2
  · subst c2
    exact V.tswIn h (by decide) (by decide) rfl h2 (k2 rfl)
  by_cases c3 : z = 3
  · subst c3
    exact V.tswIn h (by decide) (by decide) rfl h3 (k3 rfl)
  exact V.tswOut h (by omega) h4 (k4 (by omega))
theorem V.tsw7 {G : GX} {y : MK} {R : Room} {Qf : QF} {pc pc' : Nat} {L : List (Option AV)} {st : List AV} {sz : Nat} {m : Mem} {k n len : Nat} {z d o0 o1 o2 o3 o4 o5 o6 : Int} (h : At y pc (.tableswitch d 0 6 #[o0, o1, o2, o3, o4, o5, o6]) len pc') {t0 t1 t2 t3 t4 t5 t6 t7 : Nat} (h0 : (pc : Int) + o0 = (t0 : Int)) (h1 : (pc : Int) + o1 = (t1 : Int)) (h2 : (pc : Int) + o2 = (t2 : Int)) (h3 : (pc : Int) + o3 = (t3 : Int)) (h4 : (pc : Int) + o4 = (t4 : Int)) (h5 : (pc : Int) + o5 = (t5 : Int)) (h6 : (pc : Int) + o6 = (t6 : Int)) (h7 : (pc : Int) + d = (t7 : Int)) (k0 : z = 0 → V G y R Qf t0 L st sz m k n) (k1 : z = 1 → V G y R Qf t1 L st sz m k n) (k2 : z = 2 → V G y R Qf t2 L st sz m k n) (k3 : z = 3 → V G y R Qf t3 L st sz m k n) (k4 : z = 4 → V G y R Qf t4 L st sz m k n) (k5 : z = 5 → V G y R Qf t5 L st sz m k n) (k6 : z = 6 → V G y R Qf t6 L st sz m k n) (k7 : z < 0 ∨ 6 < z → V G y R Qf t7 L st sz m k n) : V G y R Qf pc L (.inl z :: st) sz m k n := by
  by_cases c0 : z = 0
  · subst c0
    exact V.tswIn h (by decide) (by decide) rfl h0 (k0 rfl)
  by_cases c1 : z = 1
  · subst c1
    exact V.tswIn h (by decide) (by decide) rfl h1 (k1 rfl)
  by_cases c2 : z = 2
  · subst c2
    exact V.tswIn h (by decide) (by decide) rfl h2 (k2 rfl)
  by_cases c3 : z = 3
  · subst c3
    exact V.tswIn h (by decide) (by decide) rfl h3 (k3 rfl)
  by_cases c4 : z = 4
  · subst c4
    exact V.tswIn h (by decide) (by decide) rfl h4 (k4 rfl)
  by_cases c5 : z = 5
  · subst c5
    exact V.tswIn h (by decide) (by decide) rfl h5 (k5 rfl)
  by_cases c6 : z = 6
  · subst c6
    exact V.tswIn h (by decide) (by decide) rfl h6 (k6 rfl)
  exact V.tswOut h (by omega) h7 (k7 (by omega))
theorem V.tsw14 {G : GX} {y : MK} {R : Room} {Qf : QF} {pc pc' : Nat} {L : List (Option AV)} {st : List AV} {sz : Nat} {m : Mem} {k n len : Nat} {z d o0 o1 o2 o3 o4 o5 o6 o7 o8 o9 o10 o11 o12 o13 : Int} (h : At y pc (.tableswitch d 0 13 #[o0, o1, o2, o3, o4, o5, o6, o7, o8, o9, o10, o11, o12, o13]) len pc') {t0 t1 t2 t3 t4 t5 t6 t7 t8 t9 t10 t11 t12 t13 t14 : Nat} (h0 : (pc : Int) + o0 = (t0 : Int)) (h1 : (pc : Int) + o1 = (t1 : Int)) (h2 : (pc : Int) + o2 = (t2 : Int)) (h3 : (pc : Int) + o3 = (t3 : Int)) (h4 : (pc : Int) + o4 = (t4 : Int)) (h5 : (pc : Int) + o5 = (t5 : Int)) (h6 : (pc : Int) + o6 = (t6 : Int)) (h7 : (pc : Int) + o7 = (t7 : Int)) (h8 : (pc : Int) + o8 = (t8 : Int)) (h9 : (pc : Int) + o9 = (t9 : Int)) (h10 : (pc : Int) + o10 = (t10 : Int)) (h11 : (pc : Int) + o11 = (t11 : Int)) (h12 : (pc : Int) + o12 = (t12 : Int)) (h13 : (pc : Int) + o13 = (t13 : Int)) (h14 : (pc : Int) + d = (t14 : Int)) (k0 : z = 0 → V G y R Qf t0 L st sz m k n) (k1 : z = 1 → V G y R Qf t1 L st sz m k n) (k2 : z = 2 → V G y R Qf t2 L st sz m k n) (k3 : z = 3 → V G y R Qf t3 L st sz m k n) (k4 : z = 4 → V G y R Qf t4 L st sz m k n) (k5 : z = 5 → V G y R Qf t5 L st sz m k n) (k6 : z = 6 → V G y R Qf t6 L st sz m k n) (k7 : z = 7 → V G y R Qf t7 L st sz m k n) (k8 : z = 8 → V G y R Qf t8 L st sz m k n) (k9 : z = 9 → V G y R Qf t9 L st sz m k n) (k10 : z = 10 → V G y R Qf t10 L st sz m k n) (k11 : z = 11 → V G y R Qf t11 L st sz m k n) (k12 : z = 12 → V G y R Qf t12 L st sz m k n) (k13 : z = 13 → V G y R Qf t13 L st sz m k n) (k14 : z < 0 ∨ 13 < z → V G y R Qf t14 L st sz m k n) : V G y R Qf pc L (.inl z :: st) sz m k n := by
  by_cases c0 : z = 0
  · subst c0
    exact V.tswIn h (by decide) (by decide) rfl h0 (k0 rfl)
  by_cases c1 : z = 1
  · subst c1
    exact V.tswIn h (by decide) (by decide) rfl h1 (k1 rfl)
  by_cases c2 : z = 2
  · subst c2
    exact V.tswIn h (by decide) (by decide) rfl h2 (k2 rfl)
  by_cases c3 : z = 3
  · subst c3
    exact V.tswIn h (by decide) (by decide) rfl h3 (k3 rfl)
  by_cases c4 : z = 4
  · subst c4
    exact V.tswIn h (by decide) (by decide) rfl h4 (k4 rfl)
  by_cases c5 : z = 5
  · subst c5
    exact V.tswIn h (by decide) (by decide) rfl h5 (k5 rfl)
  by_cases c6 : z = 6
  · subst c6
    exact V.tswIn h (by decide) (by decide) rfl h6 (k6 rfl)
  by_cases c7 : z = 7
  · subst c7
    exact V.tswIn h (by decide) (by decide) rfl h7 (k7 rfl)
  by_cases c8 : z = 8
  · subst c8
    exact V.tswIn h (by decide) (by decide) rfl h8 (k8 rfl)
  by_cases c9 : z = 9
  · subst c9
    exact V.tswIn h (by decide) (by decide) rfl h9 (k9 rfl)
  by_cases c10 : z = 10
  · subst c10
    exact V.tswIn h (by decide) (by decide) rfl h10 (k10 rfl)
  by_cases c11 : z = 11
  · subst c11
    exact V.tswIn h (by decide) (by decide) rfl h11 (k11 rfl)
  by_cases c12 : z = 12
  · subst c12
    exact V.tswIn h (by decide) (by decide) rfl h12 (k12 rfl)
  by_cases c13 : z = 13
  · subst c13
    exact V.tswIn h (by decide) (by decide) rfl h13 (k13 rfl)
  exact V.tswOut h (by omega) h14 (k14 (by omega))
theorem V.tsw25 {G : GX} {y : MK} {R : Room} {Qf : QF} {pc pc' : Nat} {L : List (Option AV)} {st : List AV} {sz : Nat} {m : Mem} {k n len : Nat} {z d o0 o1 o2 o3 o4 o5 o6 o7 o8 o9 o10 o11 o12 o13 o14 o15 o16 o17 o18 o19 o20 o21 o22 o23 o24 : Int} (h : At y pc (.tableswitch d 0 24 #[o0, o1, o2, o3, o4, o5, o6, o7, o8, o9, o10, o11, o12, o13, o14, o15, o16, o17, o18, o19, o20, o21, o22, o23, o24]) len pc') {t0 t1 t2 t3 t4 t5 t6 t7 t8 t9 t10 t11 t12 t13 t14 t15 t16 t17 t18 t19 t20 t21 t22 t23 t24 t25 : Nat} (h0 : (pc : Int) + o0 = (t0 : Int)) (h1 : (pc : Int) + o1 = (t1 : Int)) (h2 : (pc : Int) + o2 = (t2 : Int)) (h3 : (pc : Int) + o3 = (t3 : Int)) (h4 : (pc : Int) + o4 = (t4 : Int)) (h5 : (pc : Int) + o5 = (t5 : Int)) (h6 : (pc : Int) + o6 = (t6 : Int)) (h7 : (pc : Int) + o7 = (t7 : Int)) (h8 : (pc : Int) + o8 = (t8 : Int)) (h9 : (pc : Int) + o9 = (t9 : Int)) (h10 : (pc : Int) + o10 = (t10 : Int)) (h11 : (pc : Int) + o11 = (t11 : Int)) (h12 : (pc : Int) + o12 = (t12 : Int)) (h13 : (pc : Int) + o13 = (t13 : Int)) (h14 : (pc : Int) + o14 = (t14 : Int)) (h15 : (pc : Int) + o15 = (t15 : Int)) (h16 : (pc : Int) + o16 = (t16 : Int)) (h17 : (pc : Int) + o17 = (t17 : Int)) (h18 : (pc : Int) + o18 = (t18 : Int)) (h19 : (pc : Int) + o19 = (t19 : Int)) (h20 : (pc : Int) + o20 = (t20 : Int)) (h21 : (pc : Int) + o21 = (t21 : Int)) (h22 : (pc : Int) + o22 = (t22 : Int)) (h23 : (pc : Int) + o23 = (t23 : Int)) (h24 : (pc : Int) + o24 = (t24 : Int)) (h25 : (pc : Int) + d = (t25 : Int)) (k0 : z = 0 → V G y R Qf t0 L st sz m k n) (k1 : z = 1 → V G y R Qf t1 L st sz m k n) (k2 : z = 2 → V G y R Qf t2 L st sz m k n) (k3 : z = 3 → V G y R Qf t3 L st sz m k n) (k4 : z = 4 → V G y R Qf t4 L st sz m k n) (k5 : z = 5 → V G y R Qf t5 L st sz m k n) (k6 : z = 6 → V G y R Qf t6 L st sz m k n) (k7 : z = 7 → V G y R Qf t7 L st sz m k n) (k8 : z = 8 → V G y R Qf t8 L st sz m k n) (k9 : z = 9 → V G y R Qf t9 L st sz m k n) (k10 : z = 10 → V G y R Qf t10 L st sz m k n) (k11 : z = 11 → V G y R Qf t11 L st sz m k n) (k12 : z = 12 → V G y R Qf t12 L st sz m k n) (k13 : z = 13 → V G y R Qf t13 L st sz m k n) (k14 : z = 14 → V G y R Qf t14 L st sz m k n) (k15 : z = 15 → V G y R Qf t15 L st sz m k n) (k16 : z = 16 → V G y R Qf t16 L st sz m k n) (k17 : z = 17 → V G y R Qf t17 L st sz m k n) (k18 : z = 18 → V G y R Qf t18 L st sz m k n) (k19 : z = 19 → V G y R Qf t19 L st sz m k n) (k20 : z = 20 → V G y R Qf t20 L st sz m k n) (k21 : z = 21 → V G y R Qf t21 L st sz m k n) (k22 : z = 22 → V G y R Qf t22 L st sz m k n) (k23 : z = 23 → V G y R Qf t23 L st sz m k n) (k24 : z = 24 → V G y R Qf t24 L st sz m k n) (k25 : z < 0 ∨ 24 < z → V G y R Qf t25 L st sz m k n) : V G y R Qf pc L (.inl z :: st) sz m k n := by
  by_cases c0 : z = 0
  · subst c0
    exact V.tswIn h (by decide) (by decide) rfl h0 (k0 rfl)
  by_cases c1 : z = 1
  · subst c1
    exact V.tswIn h (by decide) (by decide) rfl h1 (k1 rfl)
  by_cases c2 : z = 2
  · subst c2
    exact V.tswIn h (by decide) (by decide) rfl h2 (k2 rfl)
  by_cases c3 : z = 3
  · subst c3
    exact V.tswIn h (by decide) (by decide) rfl h3 (k3 rfl)
  by_cases c4 : z = 4
  · subst c4
    exact V.tswIn h (by decide) (by decide) rfl h4 (k4 rfl)
  by_cases c5 : z = 5
  · subst c5
    exact V.tswIn h (by decide) (by decide) rfl h5 (k5 rfl)
  by_cases c6 : z = 6
  · subst c6
    exact V.tswIn h (by decide) (by decide) rfl h6 (k6 rfl)
  by_cases c7 : z = 7
  · subst c7
    exact V.tswIn h (by decide) (by decide) rfl h7 (k7 rfl)
  by_cases c8 : z = 8
  · subst c8
    exact V.tswIn h (by decide) (by decide) rfl h8 (k8 rfl)
  by_cases c9 : z = 9
  · subst c9
    exact V.tswIn h (by decide) (by decide) rfl h9 (k9 rfl)
  by_cases c10 : z = 10
  · subst c10
    exact V.tswIn h (by decide) (by decide) rfl h10 (k10 rfl)
  by_cases c11 : z = 11
  · subst c11
    exact V.tswIn h (by decide) (by decide) rfl h11 (k11 rfl)
  by_cases c12 : z = 12
  · subst c12
    exact V.tswIn h (by decide) (by decide) rfl h12 (k12 rfl)
  by_cases c13 : z = 13
  · subst c13
    exact V.tswIn h (by decide) (by decide) rfl h13 (k13 rfl)
  by_cases c14 : z = 14
  · subst c14
    exact V.tswIn h (by decide) (by decide) rfl h14 (k14 rfl)
  by_cases c15 : z = 15
  · subst c15
    exact V.tswIn h (by decide) (by decide) rfl h15 (k15 rfl)
  by_cases c16 : z = 16
  · subst c16
    exact V.tswIn h (by decide) (by decide) rfl h16 (k16 rfl)
  by_cases c17 : z = 17
  · subst c17
    exact V.tswIn h (by decide) (by decide) rfl h17 (k17 rfl)
  by_cases c18 : z = 18
  · subst c18
    exact V.tswIn h (by decide) (by decide) rfl h18 (k18 rfl)
  by_cases c19 : z = 19
  · subst c19
    exact V.tswIn h (by decide) (by decide) rfl h19 (k19 rfl)
  by_cases c20 : z = 20
  · subst c20
    exact V.tswIn h (by decide) (by decide) rfl h20 (k20 rfl)
  by_cases c21 : z = 21
  · subst c21
    exact V.tswIn h (by decide) (by decide) rfl h21 (k21 rfl)
  by_cases c22 : z = 22
  · subst c22
    exact V.tswIn h (by decide) (by decide) rfl h22 (k22 rfl)
  by_cases c23 : z = 23
  · subst c23
    exact V.tswIn h (by decide) (by decide) rfl h23 (k23 rfl)
  by_cases c24 : z = 24
  · subst c24
    exact V.tswIn h (by decide) (by decide) rfl h24 (k24 rfl)
  exact V.tswOut h (by omega) h25 (k25 (by omega))
theorem V.ifb_ne {G : GX} {y : MK} {R : Room} {Qf : QF} {pc pc' : Nat} {L : List (Option AV)} {st : List AV} {sz : Nat} {m : Mem} {k n : Nat} {P : Prop} [Decidable P] {off : Int} {tgt : Nat} (h : At y pc (.ifCond .ne off) 3 pc') (ht : (pc : Int) + off = (tgt : Int)) (kt : P → V G y R Qf tgt L st sz m k n) (kf : ¬ P → V G y R Qf pc' L st sz m k n) : V G y R Qf pc L (.inl (b2 P) :: st) sz m k n := V.if_ne h ht (fun c => kt (b2_ne c)) (fun c => kf (b2_eq c))
theorem V.ifb_eq {G : GX} {y : MK} {R : Room} {Qf : QF} {pc pc' : Nat} {L : List (Option AV)} {st : List AV} {sz : Nat} {m : Mem} {k n : Nat} {P : Prop} [Decidable P] {off : Int} {tgt : Nat} (h : At y pc (.ifCond .eq off) 3 pc') (ht : (pc : Int) + off = (tgt : Int)) (kt : ¬ P → V G y R Qf tgt L st sz m k n) (kf : P → V G y R Qf pc' L st sz m k n) : V G y R Qf pc L (.inl (b2 P) :: st) sz m k n := V.if_eq h ht (fun c => kt (b2_eq c)) (fun c => kf (b2_ne c))
def cpy {α : Type} (f : Int → α) (a : Int) (g : Int → α) (b n : Int) : Int → α := fun j => if b ≤ j ∧ j < b + n then f (a + (j - b)) else g j
theorem cpy_0 {α : Type} {f g : Int → α} {a b n : Int} (h : n ≤ 0) : cpy f a g b n = g := by
  funext j
  unfold cpy
  rw [if_neg (by omega)]
theorem cpy_s {α : Type} {f g : Int → α} {a b n : Int} (h : 0 ≤ n) {x : α} (hx : x = f (a + n)) {i : Int} (hi : i = b + n) : upI (cpy f a g b n) i x = cpy f a g b (n + 1) := by
  subst hi; subst hx
  funext j
  unfold cpy upI
  by_cases hj : j = b + n
  · rw [if_pos hj, if_pos (by omega)]
    congr 1
    omega
  · rw [if_neg hj]
    dsimp only
    by_cases h2 : b ≤ j ∧ j < b + n
    · rw [if_pos h2, if_pos (by omega)]
    · rw [if_neg h2, if_neg (by omega)]
theorem cpy_in {α : Type} {f g : Int → α} {a b n j : Int} (h : b ≤ j ∧ j < b + n) : cpy f a g b n j = f (a + (j - b)) := if_pos h
theorem cpy_out {α : Type} {f g : Int → α} {a b n j : Int} (h : j < b ∨ b + n ≤ j) : cpy f a g b n j = g j := if_neg (by omega)
abbrev atE (s : Int → Int) (k : Int) : Int := 170 + 17 * (k - s 2)
abbrev ofE (s : Int → Int) (k j : Int) : Int := s (atE s k + j)
def pictF (f : Int → Int) (a : Int) (r k : Int) : Int := r + (if f (a + k) = f (a + k - 1) then 0 else 1)
def pictR (f : Int → Int) (a : Int) : Int := foldI (pictF f a) 1 1 12
def pict (f : Int → Int) (a : Int) : Int := 2 + (if 2 * pictR f a < 12 then 2 * pictR f a else 12)
theorem pictR_b {f : Int → Int} {a k : Int} (h : 1 ≤ k) : 1 ≤ foldI (pictF f a) 1 1 k ∧ foldI (pictF f a) 1 1 k ≤ k := foldI_ind (fun k r => 1 ≤ r ∧ r ≤ k) (by decide) (fun k x hk hp => by unfold pictF; split <;> omega) k h
theorem pict_b {f : Int → Int} {a : Int} : 4 ≤ pict f a ∧ pict f a ≤ 14 := by
  have h := pictR_b (f := f) (a := a) (k := 12) (by decide)
  unfold pict pictR
  split <;> omega
def sizeA (f : Int → Int) (a : Int) : Int := if f (a + 1) = 0 then pict f (a + 5) else if f (a + 1) = 1 ∨ f (a + 1) = 2 then 4 else if f (a + 1) = 3 then 3 else 3 + f (a + 3)
def timeA (f : Int → Int) (a : Int) : Int := sizeA f a + (if f (a + 1) = 0 then 0 else if f (a + 1) = 3 then 12 else f (a + 3))
def entOK (f : Int → Int) (a : Int) : Prop := (0 ≤ f a ∧ f a < 6) ∧ (0 ≤ f (a + 1) ∧ f (a + 1) ≤ 4) ∧ (0 ≤ f (a + 2) ∧ 1 ≤ f (a + 3) ∧ f (a + 2) + f (a + 3) ≤ 12) ∧ (f (a + 4) = 0 ∨ f (a + 4) = 1) ∧ (∀ j, 0 ≤ j → j < 12 → 0 ≤ f (a + 5 + j)) ∧ (f (a + 1) ≠ 3 → ∀ j, 0 ≤ j → j < 12 → f (a + 5 + j) ≤ 9) ∧
  (f (a + 1) = 3 → 1 ≤ f (a + 5) ∧ f (a + 5) ≤ 11) ∧ (f (a + 1) = 0 ∨ f (a + 1) = 3 → f (a + 2) = 0 ∧ f (a + 3) = 12) ∧ (f (a + 1) = 2 → 1 ≤ f (a + 5))
theorem sizeA_b {f : Int → Int} {a : Int} (h : entOK f a) : 3 ≤ sizeA f a ∧ sizeA f a ≤ 15 := by
  obtain ⟨-, h1, h2, -⟩ := h
  have h3 := pict_b (f := f) (a := a + 5)
  unfold sizeA
  split
  · omega
  · split
    · omega
    · split <;> omega
theorem timeA_b {f : Int → Int} {a : Int} (h : entOK f a) : 3 ≤ timeA f a ∧ timeA f a ≤ 27 := by
  have h3 := sizeA_b h
  obtain ⟨-, h1, h2, -⟩ := h
  unfold timeA
  split
  · omega
  · split <;> omega
def startF (s : Int → Int) (p found k : Int) : Int := if ofE s k 0 = p ∧ ofE s k 1 = 0 ∧ s (152 + p) ≤ k then k else found
def start (s : Int → Int) (p e : Int) : Int := foldI (startF s p) (-5) (s 2) e
abbrev needsP (s : Int → Int) (p k e : Int) : Prop := k < e ∧ ofE s k 0 = p ∧ s (152 + p) ≤ k ∧ start s p e ≤ k
abbrev isN (s : Int → Int) (k : Int) : Prop := needsP s (ofE s k 0) k (s 3) ∨ needsP s (ofE s k 0) k (s 4)
def neededMany (s : Int → Int) : Int := foldI (fun n k => n + b2 (isN s k)) 0 (s 2) (s 3)
def firstDam (s : Int → Int) (p e : Int) : Int := foldD (fun found k => if needsP s p k e ∧ ofE s k 4 = 1 then k else found) (-5) e (s 2)
def timeOf (s : Int → Int) (p : Int) : Int := foldI (fun sum k => sum + (if needsP s p k (s 3) then timeA s (atE s k) else 0)) (if start s p (s 3) = -5 then 5 else 0) (s 2) (s 3)
def used (s : Int → Int) : Int := foldI (fun sum k => sum + sizeA s (atE s k)) 0 (s 2) (s 3)
def drpF (s : Int → Int) (most : Int) : Nat → Int → Int → Int
  | 0, n, _ => n
  | f + 1, n, left => if most < left ∧ s 2 + n < s 4 ∧ ¬ isN s (s 2 + n) then drpF s most f (n + 1) (left - sizeA s (atE s (s 2 + n))) else n
def droppable (s : Int → Int) (most : Int) : Int := drpF s most ((s 4 - s 2).toNat + 1) 0 (used s)
def usedW (s : Int → Int) (many : Int) : Int := foldI (fun sum k => sum - sizeA s (atE s (s 2 + k))) (used s) 0 many
def dropsF (s : Int → Int) (many : Int) : Int → Int :=
  let s1 := foldI (fun c k => upI c (164 + ofE s (s 2 + k) 0) (s 2 + k)) s 0 many
  let s2 := upI s1 2 (s 2 + many)
  fun j => if 170 ≤ j ∧ j < 170 + 17 * (s 3 - (s 2 + many)) then s2 (j + 17 * many) else s2 j
-- what holds of every row s; B bounds the numbers that grow
def Inv (B : Int) (s : Int → Int) : Prop := (0 ≤ s 0 ∧ s 0 ≤ 2) ∧ (30 ≤ s 1 ∧ s 1 ≤ 300) ∧ (0 ≤ s 2 ∧ s 2 ≤ s 4 ∧ s 4 ≤ s 3 ∧ s 3 ≤ B ∧ s 3 - s 2 ≤ 100) ∧ (0 ≤ s 5 ∧ s 5 ≤ B) ∧ (0 ≤ s 6 ∧ s 6 ≤ B) ∧ (0 ≤ s 7 ∧ s 7 ≤ B) ∧ (∀ i, 8 ≤ i → i < 152 → 0 ≤ s i ∧ s i ≤ 9) ∧
  (∀ p, 0 ≤ p → p < 6 → (0 ≤ s (152 + p) ∧ s (152 + p) ≤ s 4) ∧ (s (158 + p) = 0 ∨ s (158 + p) = 1) ∧ (s (164 + p) = -5 ∨ (0 ≤ s (164 + p) ∧ s (164 + p) < s 2))) ∧ (∀ k, s 2 ≤ k → k < s 3 → entOK s (atE s k)) ∧ used s ≤ s 1 ∧ B ≤ 20000
theorem Inv.num {B : Int} {s : Int → Int} (h : Inv B s) : 0 ≤ s 0 ∧ s 0 ≤ 2 ∧ 30 ≤ s 1 ∧ s 1 ≤ 300 ∧ 0 ≤ s 2 ∧ s 2 ≤ s 4 ∧ s 4 ≤ s 3 ∧ s 3 ≤ B ∧ s 3 - s 2 ≤ 100 ∧ B ≤ 20000 ∧ 0 ≤ s 5 ∧ s 5 ≤ B ∧ 0 ≤ s 6 ∧ s 6 ≤ B ∧ 0 ≤ s 7 ∧ s 7 ≤ B := by
  obtain ⟨h0, h1, h2, h3, h4, h5, -, -, -, -, hB⟩ := h
  omega
theorem Inv.ent {B : Int} {s : Int → Int} (h : Inv B s) {k : Int} (h1 : s 2 ≤ k) (h2 : k < s 3) : entOK s (atE s k) := h.2.2.2.2.2.2.2.2.1 k h1 h2
theorem Inv.page {B : Int} {s : Int → Int} (h : Inv B s) {p : Int} (h1 : 0 ≤ p) (h2 : p < 6) : (0 ≤ s (152 + p) ∧ s (152 + p) ≤ s 4) ∧ (s (158 + p) = 0 ∨ s (158 + p) = 1) ∧ (s (164 + p) = -5 ∨ (0 ≤ s (164 + p) ∧ s (164 + p) < s 2)) := h.2.2.2.2.2.2.2.1 p h1 h2
theorem Inv.cell {B : Int} {s : Int → Int} (h : Inv B s) {i : Int} (h1 : 8 ≤ i) (h2 : i < 152) : 0 ≤ s i ∧ s i ≤ 9 := h.2.2.2.2.2.2.1 i h1 h2
theorem Inv.room {B : Int} {s : Int → Int} (h : Inv B s) : used s ≤ s 1 := h.2.2.2.2.2.2.2.2.2.1
