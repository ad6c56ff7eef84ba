theorem e84 {d a : Nat} {w : Int32} {h : Hp} (ht : (h.2.1 a).1 = 10) : ex d 84 0 [some (.ref a), some (.int w)] [] h = some (some (.int (-1)), (mup h.1 a 16 (.int w), h.2)) := by
  simp only [x84_0, x84_1, x84_2, ht, x84_5, x84_6]
theorem e92 {d : Nat} {x y z : Int32} {h : Hp} : ex d 92 0 [some (.int x), some (.int y), some (.int z)] [] h = some (some (.int (if y ≤ x ∧ x ≤ z then 1 else 0)), h) := by
  simp only [x92_0, x92_1, x92_2, x92_5, x92_6, x92_7, x92_10, x92_11, x92_14]
  repeat' split
  all_goals trace_state
  all_goals sorry
theorem e86 {d a b n : Nat} {t : Int32} {h : Hp} (ht : (h.2.1 a).1 = 10) (h0 : h.1 a 0 = .ref b) (h1 : h.1 a 1 = .int (nI n)) : ex d 86 0 [some (.ref a), some (.int t)] [] h = none := by
  simp only [x86_0, x86_1, x86_4, x86_5, x86_6, x86_9, x86_12, x86_13, x86_16, ht, h0, h1, x86_21, x86_22n]
  trace_state
  sorry
