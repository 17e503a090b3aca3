theorem rel_town {X : XS} {M : MS} (hR : Rel X M) (x1 x2 x3 x4 : Int32) : (f_X3_town X x1 x2 x3 x4).1 = (f_X4_town M x1 x2 x3 x4).1 ∧ Rel (f_X3_town X x1 x2 x3 x4).2 (f_X4_town M x1 x2 x3 x4).2 := by
  sorry
theorem rel_day {X : XS} {M : MS} (hR : Rel X M) (x1 : Int32) : (f_X3_day X x1).1 = (f_X4_day M x1).1 ∧ Rel (f_X3_day X x1).2 (f_X4_day M x1).2 := by
  sorry
theorem rel_leave {X : XS} {M : MS} (hR : Rel X M) (x1 : Int32) : (f_X3_leave X x1).1 = (f_X4_leave M x1).1 ∧ Rel (f_X3_leave X x1).2 (f_X4_leave M x1).2 := by
  sorry
theorem rel_year {X : XS} {M : MS} (hR : Rel X M) (x1 x2 x3 x4 x5 : Int32) : (f_X3_year X x1 x2 x3 x4 x5).1 = (f_X4_year M x1 x2 x3 x4 x5).1 ∧ Rel (f_X3_year X x1 x2 x3 x4 x5).2 (f_X4_year M x1 x2 x3 x4 x5).2 := by
  sorry
