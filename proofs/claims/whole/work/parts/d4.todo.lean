/-! ===== still to be proved ===== -/
section ZTODO
variable {d : Nat} {w : ZW} {Q : Option Value → ZW → Prop}
end ZTODO
