/-! ===== still to be proved ===== -/
section ZTODO
variable {d : Nat} {w : ZW} {Q : Option Value → ZW → Prop}
theorem p_read (h : LI w) (hK : ∀ v w1, MR (d + 21) mX9_read [] (.int v) w1 → Q (some (.int v)) w1) : Zm (d + 21) mX8_read 0 0 [.ref 0] w Q := sorry
end ZTODO
