theorem sz_mu {x : Int32} {k : Nat} (c : ¬ x ≤ 0) (hk : x.toInt.toNat < k + 1) : (x >>> ((1 : Int32) &&& 31)).toInt.toNat < k := by
  rw [fa_le, show (0 : Int32).toInt = 0 from rfl] at c
  rw [pk_shr x _ 1 (by decide), Int.shiftRight_eq_div_pow]
  simp only [Nat.pow_one] at *
  omega
theorem lc_ne {y : Int64} (c : ¬ lg_cmp y (0 : Int64) = 0) : ¬ y = 0 := by
  intro h
  rw [h] at c
  exact c (by decide)
theorem lc_eq {y : Int64} (c : lg_cmp y (0 : Int64) = 0) : y = 0 := by
  unfold lg_cmp at c
  split at c
  · exact absurd c (by decide)
  · split at c
    · assumption
    · exact absurd c (by decide)
theorem il_nz {x y : Int64} (hz : ¬ x = 0 ∨ ¬ y = 0) (c : lg_cmp y (0 : Int64) = 0) : ¬ x = 0 := hz.elim id (fun h => absurd (lc_eq c) h)
theorem l_nn {x : Int64} (h : 0 ≤ x.toInt) : ¬ x < 0 := by
  rw [fa_lt64, show (0 : Int64).toInt = 0 from rfl]; omega
theorem lrm {a b : Int64} (ha : 0 ≤ a.toInt) (hb : 0 ≤ b.toInt) (hz : ¬ b = 0) : (a - a / b * b).toInt = a.toInt % b.toInt ∧ 0 < b.toInt := by
  obtain ⟨i, hi, rfl⟩ := pk_lOf (l_nn ha)
  obtain ⟨j, hj, rfl⟩ := pk_lOf (l_nn hb)
  have hj0 : 0 < j := by
    rcases Nat.eq_zero_or_pos j with h | h
    · exact absurd (by rw [h]; rfl) hz
    · exact h
  have hlt : i % j < 2 ^ 63 := Nat.lt_of_le_of_lt (Nat.mod_le i j) hi
  rw [pk_lRem hi hj0 hj, pk_lT hlt, pk_lT hi, pk_lT hj]
  omega
theorem il_7 {a b : Int64} (ha : 0 ≤ a.toInt) (hb : 0 ≤ b.toInt) (c : ¬ lg_cmp b (0 : Int64) = 0) : 0 ≤ (a - a / b * b).toInt := by
  obtain ⟨h1, h2⟩ := lrm ha hb (lc_ne c)
  rw [h1]
  exact Int.emod_nonneg _ (by omega)
theorem il_mu {a b : Int64} {k : Nat} (ha : 0 ≤ a.toInt) (hb : 0 ≤ b.toInt) (c : ¬ lg_cmp b (0 : Int64) = 0) (hk : b.toInt.toNat < k + 1) : (a - a / b * b).toInt.toNat < k := by
  obtain ⟨h1, h2⟩ := lrm ha hb (lc_ne c)
  have h3 := Int.emod_lt_of_pos a.toInt h2
  rw [h1]
  omega
theorem ps_nz {x : Int64} (h : 0 < x.toInt) : ¬ x = 0 := by
  intro e
  rw [e] at h
  exact absurd h (by decide)
