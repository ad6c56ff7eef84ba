/-! ===== Math's own, where the row needs the table ===== -/
theorem fin_max {d mi pc x k n P : Nat} {L : Lc} {st : List Value} {h : Hp} {E : List (Nat × Nat)} {y z : Int32} (hf : iOf (mO mi) x = some (k, 7, n, E, P)) (hl : st.length ≤ 4) : fin ex d mi (stp mi pc (.invokestatic x) 3 L (.int y :: .int z :: st) h) = ex d mi (pc + 3) L (.int (if z < y then y else z) :: st) h := by
  simp only [stp, lnq, if_true, invq, hf]
  rw [if_pos hl]
  rfl
