theorem rf_L {X : XS} {j : Nat} {x2 x3 : Int32} (hn : (T_count (X_now X)).toInt ≤ 6) : ∀ (k : Nat) (x4 : Int32), 0 ≤ x4.toInt → (x3.toInt - x4.toInt).toNat < k → fL_X3_refusalOfPairs_3 X j x2 x3 k x4 = 0 → ∀ r : Int32, x4.toInt ≤ r.toInt → ¬ x3 ≤ r → vp_in (f_X1_at (X_sheets X j) (x2 + ((2 : Int32) * r))) 6 := by
  intro k
  induction k with
  | zero => intro x4 h0 hk; exact absurd hk (Nat.not_lt_zero _)
  | succ k ih =>
    intro x4 h0 hk h r hr hr2
    rw [fL_X3_refusalOfPairs_3] at h
    split at h
    · rename_i c1
      rw [fa_le] at c1 hr2
      omega
    · rename_i c1
      split at h
      · exact absurd h (by decide)
      · rename_i c2
        split at h
        · exact absurd h (by decide)
        · by_cases e : r.toInt = x4.toInt
          · rw [Int32.toInt_inj.mp e]
            exact has_in hn c2
          · exact ih (x4 + 1) (lp_pre h0 c1) (lp_mu h0 c1 hk) h r (by rw [lp_s c1]; omega) hr2
theorem rf_pa {X : XS} {j : Nat} {x2 x3 : Int32} (hn : (T_count (X_now X)).toInt ≤ 6) (h : f_X3_refusalOfPairs X x2 x3 j = 0) : ∀ r : Int32, 0 ≤ r.toInt → ¬ x3 ≤ r → vp_in (f_X1_at (X_sheets X j) (x2 + ((2 : Int32) * r))) 6 := by
  intro r h0 hr
  exact rf_L hn _ 0 (Int.le_refl _) (by rw [show (0 : Int32).toInt = 0 from rfl]; omega) h r (by rw [show (0 : Int32).toInt = 0 from rfl]; exact h0) hr
theorem fw_L {X : XS} {j : Nat} {x2 x3 : Int32} : ∀ (k : Nat) (x4 : Int32) (v : TN), (T_count v).toInt ≤ 6 → (T_count (X_then (fL_X3_firstWrongOf_14 X j x2 x3 k x4 v).2)).toInt ≤ 6 := by
  intro k
  induction k with
  | zero => intro x4 v h; exact h
  | succ k ih =>
    intro x4 v h
    rw [fL_X3_firstWrongOf_14]
    split
    · exact h
    · split
      · exact acts_c h
      · exact ih _ _ (acts_c h)
theorem fw_c {X : XS} {j : Nat} {x2 x3 : Int32} (hn : (T_count (X_now X)).toInt ≤ 6) : (T_count (X_then (f_X3_firstWrongOf X x2 x3 j).2)).toInt ≤ 6 := fw_L _ _ _ (bl_c hn)
