theorem at_in {a e : Int32} (ha : 0 ≤ a.toInt) (he : e.toInt ≤ 240) (c : ¬ e ≤ a) : vp_in ((a + (1 : Int32)) - (1 : Int32)) 240 := by
  rw [show (a + (1 : Int32)) - (1 : Int32) = a from Int32.add_sub_cancel a 1]
  exact lp_in ha he c
