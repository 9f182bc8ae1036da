-- the reference's methods: contracts (part eleven): the page as of an entry, a text, what an order does
abbrev asA (s : Int → Int) (p e : Int) : Prop := asFr s p e = -5 ∧ (e + 1 < s (152 + p) ∨ s (152 + p) ≤ s (164 + p))
abbrev asBad (s : Int → Int) (p e : Int) : Prop := ∃ j, asSt s p e ≤ j ∧ j ≤ e ∧ ofE s j 0 = p ∧ ofE s j 4 = 1
theorem asFr_b {s : Int → Int} {p a : Int} : ∀ k, s 2 ≤ k → foldI (asFrF s p) (-5) (s 2) k = -5 ∨ (s 2 ≤ foldI (asFrF s p) (-5) (s 2) k ∧ foldI (asFrF s p) (-5) (s 2) k < k) := by
  intro k hk
  refine foldI_ind (f := asFrF s p) (fun k x => x = -5 ∨ (s 2 ≤ x ∧ x < k)) (Or.inl rfl) (fun k x g0 g1 => ?_) k hk
  unfold asFrF
  split <;> omega
theorem txtP_s {tx : Int → Int} {ln : Int} {f : Nat} {w : Int → Int} {sp : Int} : txtP tx ln (f + 1) w sp = if (ordP tx ln w sp).1 = 0 then (0, (ordP tx ln w sp).2.1, (ordP tx ln w sp).2.2) else if seesP tx ln (ordP tx ln w sp).2.1 59 59 then txtP tx ln f (ordP tx ln w sp).2.2 ((ordP tx ln w sp).2.1 + 1) else (if (ordP tx ln w sp).2.1 = ln then 1 else 0, (ordP tx ln w sp).2.1, (ordP tx ln w sp).2.2) := rfl
def doCl (s cl mk : Int → Int) : Int → Int := if mk 1 = 0 then renCl s cl (mk 0) else chCl s cl mk
def doMk (s cl mk : Int → Int) : Int → Int := if mk 1 = 0 then renMk s cl mk (mk 0) else chMk s cl mk
def doS (s cl mk : Int → Int) : Int → Int := if fits1 s (doMk s cl mk) then logsF s (doCl s cl mk) (doMk s cl mk) else s
theorem doMk_ok {s cl mk : Int → Int} (hC : CellS s) (hM : mk 1 ≠ 0 → entOK mk 0) (hp : 0 ≤ mk 0 ∧ mk 0 < 6) : entOK (doMk s cl mk) 0 := by
  unfold doMk
  split
  · exact picF_ok hp (hold_b hC (Or.inl rfl) hp cl)
  · exact chMk_ok hC (hM (by assumption))
section
variable {G : GX} {sz : Nat} {m : Mem} {o : Nat} {s sp pa sh tx cl bf mk : Int → Int} {sv ish ln st : Int}
theorem asF_b {p : Int} {s : Int → Int} (hE : EntS s) {c : Int → Int} {k : Int} (h1 : s 2 ≤ k) (h2 : k < s 3) (hc : ∀ j, 0 ≤ j → j < 12 → 0 ≤ c j ∧ c j ≤ 9) : ∀ j, 0 ≤ j → j < 12 → 0 ≤ asF s p c k j ∧ asF s p c k j ≤ 9 := by
  unfold asF
  split
  · exact applyF_b (hE k h1 h2) hc
  · exact hc
end
