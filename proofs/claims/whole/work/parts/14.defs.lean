section MDEFS
theorem nc_0 : ((0 : Nat) : Int) = 0 := rfl
theorem nc_1 : ((1 : Nat) : Int) = 1 := rfl
theorem mSet_ap {I : mM} {i a : Nat} {k v b : Int} : mSet I i k v a b = if a = i ∧ b = k then v else I a b := rfl
/-- a number of a HIT, in the reference's row -/
def rawT (t : Int → Int) (b h w : Int) : Int := t (310 + 5 * (8 * b + h) + w)
end MDEFS
