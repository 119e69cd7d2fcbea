/-! THE REFERENCE: counts -/
section RI
variable {w : xW} {l : Nat → Nat → Int64} {t : Nat} {sc : xm_Sc} {d : Nat}
def sp_openN (r : Nat → Int32) : Int32 := xsum (fun b => r (6 + b)) (xnb r)
def sp_recN (r : Nat → Int32) : Int32 := xsum (fun k => r (59 + 6 * k)) (xnk r)
def sp_openOn (r : Nat → Int32) (v : Nat) : Int32 := xsum (fun b => zB (r (6 + b) = 1 ∧ sp_has r v (nI b) = true)) (xnb r)
def sp_reqAt (r : Nat → Int32) (b : Int32) : Int32 := xsum (fun q => zB (r (178 + 3 * q) = b)) (xnq r)
def sp_homes (r : Nat → Int32) (b : Int32) : Int32 := xsum (fun k => zB (r (58 + 6 * k) = b)) (xnk r)
def sp_vansAt (r : Nat → Int32) (b : Int32) : Int32 := xsum (fun v => zB (sp_has r v b = true)) (xnv r)
def sp_reqOf (r : Nat → Int32) (b : Int32) : Int32 := xsum (fun q => zB (r (177 + 3 * q) = b)) (xnq r)
end RI
