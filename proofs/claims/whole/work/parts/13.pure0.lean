theorem has_in {T : TN} {p : Int32} (hn : (T_count T).toInt ≤ 6) (h : ¬ f_X2_has T p = 0) : vp_in p 6 := by
  unfold f_X2_has at h
  split at h
  · exact absurd rfl h
  · split at h
    · exact absurd rfl h
    · rename_i h1 h2
      exact in_c (n := T_count T) hn h1 h2
theorem bc_nn (x : Int32) : 0 ≤ (f_J6_bitCount_0f7a4 x).toInt := (vp_in_iff.mp (pk_andIn _ (m := 63) 6 (by decide) (by decide))).1
theorem nz_1le {x : Int32} (c : (1 : Int32) ≤ x) : ¬ x = 0 := by
  intro h
  rw [h] at c
  exact absurd c (by decide)
theorem rd_nz {x : Int32} (c1 : ¬ x < (1 : Int32)) (c2 : ¬ (9 : Int32) < x) : ¬ x + (1 : Int32) = 0 := by
  intro h
  rw [fa_lt, show (1 : Int32).toInt = 1 from rfl] at c1
  rw [fa_lt, show (9 : Int32).toInt = 9 from rfl] at c2
  rw [fa_eq, fb_addI (by rw [show (1 : Int32).toInt = 1 from rfl]; omega) (by rw [show (1 : Int32).toInt = 1 from rfl]; omega), show (1 : Int32).toInt = 1 from rfl, show (0 : Int32).toInt = 0 from rfl] at h
  omega
theorem in_lt {x : Int32} (h0 : 0 ≤ x.toInt) (c : x < (8 : Int32)) : vp_in x 8 := by
  rw [fa_lt, show (8 : Int32).toInt = 8 from rfl] at c
  exact vp_in_iff.mpr ⟨h0, by omega⟩
theorem lq_s {p n : Int32} (hn : n.toInt ≤ 1000000) (c : ¬ n < p) : (p + 1).toInt = p.toInt + 1 := by
  rw [fa_lt] at c
  have h1 := fb_rng p
  rw [fb_addI] <;> (rw [show (1 : Int32).toInt = 1 from rfl]) <;> omega
theorem lq_pre {p n : Int32} (hn : n.toInt ≤ 1000000) (h0 : 0 ≤ p.toInt) (c : ¬ n < p) : 0 ≤ (p + 1).toInt := by
  rw [lq_s hn c]; omega
theorem lq_mu {p n : Int32} {k : Nat} (hn : n.toInt ≤ 1000000) (h0 : 0 ≤ p.toInt) (c : ¬ n < p) (hk : (n.toInt + 1 - p.toInt).toNat < k + 1) : (n.toInt + 1 - (p + 1).toInt).toNat < k := by
  have h := lq_s hn c
  rw [fa_lt] at c
  omega
