theorem td_at {M : MS} {e x : Int32} (ha : 0 ≤ (M_at M).toInt) (he : e.toInt ≤ 240) : 0 ≤ (M_at (f_X4_twoDigits M e x).2).toInt := by
  unfold f_X4_twoDigits
  repeat' split
  all_goals first | exact dg_at ha he | exact dg_at (dg_at ha he) he
theorem td_rp {M : MS} {e x : Int32} : M_readPeople (f_X4_twoDigits M e x).2 = M_readPeople M := by
  unfold f_X4_twoDigits
  repeat' split
  all_goals first | exact dg_rp | exact dg_rp.trans dg_rp
theorem m4 {k : Int32} (h : 0 ≤ k.toInt ∧ k.toInt ≤ 5) : ((4 : Int32) * k).toInt = 4 * k.toInt := by
  rw [fb_mulI] <;> rw [show (4 : Int32).toInt = 4 from rfl] <;> omega
theorem rp_in {k : Int32} (h : 0 ≤ k.toInt ∧ k.toInt ≤ 5) : vp_in ((4 : Int32) * k) 24 := by
  have h1 := m4 h
  exact vp_in_iff.mpr ⟨by omega, by omega⟩
theorem rp_inc {k : Int32} (c : Int32) (h : 0 ≤ k.toInt ∧ k.toInt ≤ 5) (hc : 0 ≤ c.toInt ∧ c.toInt ≤ 3) : vp_in ((4 : Int32) * k + c) 24 := by
  have h1 := m4 h
  have h2 : ((4 : Int32) * k + c).toInt = 4 * k.toInt + c.toInt := by rw [fb_addI (by omega) (by omega), h1]
  exact vp_in_iff.mpr ⟨by omega, by omega⟩
theorem k5 {p n : Int32} (h0 : 0 ≤ p.toInt) (hn : n.toInt ≤ 6) (c : ¬ n ≤ p) : 0 ≤ p.toInt ∧ p.toInt ≤ 5 := by
  rw [fa_le] at c
  omega
theorem rpq2 {M : MS} {e x : Int32} (h : 0 ≤ (M_readPeople M).toInt ∧ (M_readPeople M).toInt ≤ 6) (c : (M_readPeople M) < (2 : Int32)) : 0 ≤ (M_readPeople (f_X4_isSign M e x).2).toInt ∧ (M_readPeople (f_X4_isSign M e x).2).toInt ≤ 5 := by
  rw [sg_rp]
  rw [fa_lt, show (2 : Int32).toInt = 2 from rfl] at c
  omega
theorem rpq6 {M : MS} {e x : Int32} (h : 0 ≤ (M_readPeople M).toInt ∧ (M_readPeople M).toInt ≤ 6) (c : ¬ (6 : Int32) ≤ (M_readPeople M)) : 0 ≤ (M_readPeople (f_X4_isSign M e x).2).toInt ∧ (M_readPeople (f_X4_isSign M e x).2).toInt ≤ 5 := by
  rw [sg_rp]
  rw [fa_le, show (6 : Int32).toInt = 6 from rfl] at c
  omega
theorem ag_r {M : MS} {s k i n : Int32} (hL : ∀ i : Nat, i < 4 → 0 ≤ (M_sheetLong M i).toInt ∧ (M_sheetLong M i).toInt ≤ 60) (hs : vp_in s 4) (h : f_X4_against M s k i n = 0) : 0 ≤ i.toInt ∧ 0 ≤ n.toInt ∧ i.toInt + n.toInt ≤ 60 := by
  have hl := hL _ (sh_cl hs)
  unfold f_X4_against at h
  generalize M_sheetLong M s.toNatClampNeg = L at *
  have key : (if (0 : Int32) ≤ n then (if i < 0 then (3 : Int32) else (if L < i then (3 : Int32) else (if n ≤ L - i then (0 : Int32) else (3 : Int32)))) else (4 : Int32)) = 0 → 0 ≤ i.toInt ∧ 0 ≤ n.toInt ∧ i.toInt + n.toInt ≤ 60 := by
    intro h
    split at h
    · rename_i c1
      split at h
      · exact absurd h (by decide)
      · rename_i c2
        split at h
        · exact absurd h (by decide)
        · rename_i c3
          split at h
          · rename_i c4
            have h5 := cp_len hl c2 c3 c4
            rw [fa_le, show (0 : Int32).toInt = 0 from rfl] at c1
            omega
          · exact absurd h (by decide)
    · exact absurd h (by decide)
  by_cases e1 : (M_sorts M) s.toNatClampNeg = (-9 : Int32)
  · rw [if_pos e1, if_pos e1] at h
    exact absurd h (by decide)
  · rw [if_neg e1, if_neg e1] at h
    by_cases e2 : (M_sorts M) s.toNatClampNeg = k
    · rw [if_pos e2] at h
      exact key h
    · rw [if_neg e2] at h
      exact absurd h (by decide)
theorem rp_20 {k : Int32} (h : 0 ≤ k.toInt ∧ k.toInt ≤ 5) : 0 ≤ ((4 : Int32) * k).toInt ∧ ((4 : Int32) * k).toInt ≤ 20 := by
  have h1 := m4 h
  omega
theorem ix3 {k : Int32} (c : Int32) (h : 0 ≤ k.toInt ∧ k.toInt ≤ 20) (hc : 0 ≤ c.toInt ∧ c.toInt ≤ 3) : vp_in (k + c) 24 := by
  have h2 : (k + c).toInt = k.toInt + c.toInt := by rw [fb_addI (by omega) (by omega)]
  exact vp_in_iff.mpr ⟨by omega, by omega⟩
