-- the reference's methods: contracts (part three): what is dropped, times, what is applied
def appF (f : Int → Int) (a : Int) (c0 c : Int → Int) (k : Int) : Int → Int :=
  if f (a + 1) = 0 then upI c k (f (a + 5 + k)) else if f (a + 1) = 3 then upI c ((k + f (a + 5)) % 12) (c0 k) else if f (a + 2) ≤ k ∧ k ≤ f (a + 2) + f (a + 3) - 1 then upI c k (if f (a + 1) = 1 then f (a + 5) else if f (a + 1) = 2 then (c0 k + f (a + 5)) % 10 else f (a + 5 + k - f (a + 2))) else c
def applyF (f : Int → Int) (a : Int) (c : Int → Int) : Int → Int := foldI (appF f a c) c 0 12
def mkF (page kind fr many value : Int) (mk : Int → Int) : Int → Int := upI (upI (upI (upI (upI (cpy (fun _ => 0) 0 mk 0 17) 0 page) 1 kind) 2 fr) 3 many) 5 value
def picF (page : Int) (cl mk : Int → Int) : Int → Int := cpy cl 0 (mkF page 0 0 12 0 mk) 5 12
def restF (s : Int → Int) (p e : Int) (q : (Int → Int) × (Int → Int)) (k : Int) : (Int → Int) × (Int → Int) := if needsP s p k e then (applyF s (atE s k) q.1, cpy q.1 0 q.2 0 12) else q
theorem drpF_s {s : Int → Int} {most : Int} {f : Nat} {n left : Int} (h : most < left ∧ s 2 + n < s 4 ∧ ¬ isN s (s 2 + n)) : drpF s most (f + 1) n left = drpF s most f (n + 1) (left - sizeA s (atE s (s 2 + n))) := if_pos h
section
variable {G : GX} {sz : Nat} {m : Mem} {o : Nat} {s sp pa sh tx cl bf mk : Int → Int} {sv ish ln st : Int}
theorem timeOf_b (hE : EntS s) {p : Int} {z : Int} (hz : 0 ≤ z ∧ z ≤ 5) {k : Int} (h1 : s 2 ≤ k) (h2 : k ≤ s 3) : 0 ≤ foldI (fun sum k => sum + (if needsP s p k (s 3) then timeA s (atE s k) else 0)) z (s 2) k ∧ foldI (fun sum k => sum + (if needsP s p k (s 3) then timeA s (atE s k) else 0)) z (s 2) k ≤ 5 + 27 * (k - s 2) :=
  foldI_indB (fun k x => 0 ≤ x ∧ x ≤ 5 + 27 * (k - s 2)) (by omega) (fun k x g1 g2 g3 => by have := hE.tm g1 g2; dsimp only [atE]; split <;> omega) k h1 h2
end
