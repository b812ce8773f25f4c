/-- one more -/
def rcN (h : Int) : Int := if h = 6 then 6 else h + 1
def rcH (h : Int) (H : Int → sS) (S : sS) : Int → sS := fun j => if h = 6 then (if j = 5 then S else H (j + 1)) else (if j = h then S else H j)
section MODEL3
variable {G : cm_G} {M : cm_M} {m i j t v w g h : Int} {S : sS} {H : Int → sS} {Q : Option cm_V → cm_G → cm_M → Prop}
end MODEL3
