/-! THE REFERENCE: tick -/
def sp_tick (f0 : Nat → Int32) (r j : Nat → Int32) (h : Int32) : (Nat → Int32) × Int32 :=
  sp_t4 (sp_t3 (sp_t2 (sp_far (upd r 4 (r 4 + 1)) f0) (upd r 4 (r 4 + 1), j) (xnv r)).1 (xnk r), h) (xnk r)
def sp_tickJ (f0 : Nat → Int32) (r j : Nat → Int32) : Nat → Int32 := (sp_t2 (sp_far (upd r 4 (r 4 + 1)) f0) (upd r 4 (r 4 + 1), j) (xnv r)).2
section RV
variable {w : xW} {l : Nat → Nat → Int64} {t : Nat} {sc : xm_Sc} {d : Nat}
end RV
