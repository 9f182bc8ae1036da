-- the reference's methods: contracts (part fourteen): a new object
def iniS : Int → Int := cpy (fun _ => -5) 0 (upI (upI Zr 0 2) 1 100) 164 6
section
variable {G : GX} {sz : Nat} {m : Mem} {o : Nat}
end
