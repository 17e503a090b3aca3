theorem rel_hlv {X : XS} {M : MS} (hR : Rel X M) : ∀ v : Int32, 0 ≤ v.toInt → f_X4_missingTo M (v + (1 : Int32)) ≤ M_tin M → v.toInt < 600 := by
  sorry
theorem rel_town {X : XS} {M : MS} (hR : Rel X M) (x1 x2 x3 x4 : Int32) : (f_X3_town X x1 x2 x3 x4).1 = (f_X4_town M x1 x2 x3 x4).1 ∧ Rel (f_X3_town X x1 x2 x3 x4).2 (f_X4_town M x1 x2 x3 x4).2 := by
  sorry
theorem rel_day {X : XS} {M : MS} (hR : Rel X M) (x1 : Int32) : (f_X3_day X x1).1 = (f_X4_day M x1).1 ∧ Rel (f_X3_day X x1).2 (f_X4_day M x1).2 := by
  sorry
theorem rel_leave {X : XS} {M : MS} (hR : Rel X M) (x1 : Int32) : (f_X3_leave X x1).1 = (f_X4_leave M x1).1 ∧ Rel (f_X3_leave X x1).2 (f_X4_leave M x1).2 := by
  sorry
theorem rel_year {X : XS} {M : MS} (hR : Rel X M) (x1 x2 x3 x4 x5 : Int32) : (f_X3_year X x1 x2 x3 x4 x5).1 = (f_X4_year M x1 x2 x3 x4 x5).1 ∧ Rel (f_X3_year X x1 x2 x3 x4 x5).2 (f_X4_year M x1 x2 x3 x4 x5).2 := by
  sorry
theorem rel_asked {X : XS} {M : MS} (hR : Rel X M) (x1 x2 x3 : Int32) : (f_X3_asked X x1 x2 x3) = (f_X4_asked M x1 x2 x3) := by
  sorry
theorem rel_gatherings {X : XS} {M : MS} (hR : Rel X M) (x1 x2 : Int32) : (f_X3_gatherings X x1 x2) = (f_X4_gatherings M x1 x2).1 ∧ Rel X (f_X4_gatherings M x1 x2).2 := by
  sorry
theorem rel_level {X : XS} {M : MS} (hR : Rel X M) (x1 : Int32) : (f_X3_level X x1) = (f_X4_level M x1) := by
  sorry
theorem rel_were {X : XS} {M : MS} (hR : Rel X M) (x1 x2 x3 : Int32) : (f_X3_were X x1 x2 x3) = (f_X4_were M x1 x2 x3) := by
  sorry
theorem rel_worth {X : XS} {M : MS} (hR : Rel X M) (x1 x2 : Int32) : (f_X3_worth X x1 x2) = (f_X4_worth M x1 x2) := by
  sorry
theorem rel_mean {X : XS} {M : MS} (hR : Rel X M) (x1 : Int32) : (f_X3_mean X x1) = (f_X4_mean M x1) := by
  sorry
theorem rel_ears {X : XS} {M : MS} (hR : Rel X M) (x1 : Int32) : (f_X3_ears X x1) = (f_X4_ears M x1).1 ∧ Rel X (f_X4_ears M x1).2 := by
  sorry
theorem rel_kinds {X : XS} {M : MS} (hR : Rel X M) (x1 : Int32) : (f_X3_kinds X x1) = (f_X4_kinds M x1).1 ∧ Rel X (f_X4_kinds M x1).2 := by
  sorry
theorem rel_odds {X : XS} {M : MS} (hR : Rel X M) (x1 x2 x3 : Int32) : (f_X3_odds X x1 x2 x3) = (f_X4_odds M x1 x2 x3) := by
  sorry
