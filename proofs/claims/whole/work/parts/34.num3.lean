theorem er_hw {P : Nat → Prop} {W : Nat → Int32} {v : Nat → Int32} {p : Nat} {x : Int32} (hv : ∀ r : Nat, P r → vp_in (W r) 6 ∧ ¬ v (W r).toNatClampNeg = 0) (hx : 1 ≤ x.toInt) : ∀ r : Nat, P r → vp_in (W r) 6 ∧ ¬ (upd v p x) (W r).toNatClampNeg = 0 := by
  intro r hr
  obtain ⟨h1, h2⟩ := hv r hr
  refine ⟨h1, ?_⟩
  by_cases e : (W r).toNatClampNeg = p
  · rw [e, pk_us]
    intro e2
    rw [e2] at hx
    exact absurd hx (by decide)
  · rw [pk_un e]
    exact h2
theorem ge1_s {x : Int32} (h : 1 ≤ x.toInt) (c : ¬ (9 : Int32) < x) : 1 ≤ (x + (1 : Int32)).toInt := by
  rw [lq_s (n := 9) (by decide) c]; omega
theorem t_bnd : ∀ b : Fin 7, ((1 : Int32) <<< (nI b.val &&& 31)).toInt = 2 ^ b.val := by decide +kernel
theorem bnd_toInt {n : Int32} (h : 0 ≤ n.toInt ∧ n.toInt ≤ 6) : ((1 : Int32) <<< (n &&& 31)).toInt = 2 ^ n.toInt.toNat := by
  have e := i_nI h.1
  have := t_bnd ⟨n.toInt.toNat, by omega⟩
  rw [← e] at this
  exact this
theorem bnd_so {s n : Int32} (h : 0 ≤ n.toInt ∧ n.toInt ≤ 6) (h0 : 0 ≤ s.toInt) (c : ¬ (1 : Int32) <<< (n &&& 31) ≤ s) : so s n := by
  rw [fa_le, bnd_toInt h] at c
  exact ⟨h, h0, by omega⟩
theorem t_of0 : ∀ j : Fin 6, f_X4_isOf (nI 0) (nI j.val) = 0 := by decide +kernel
theorem so_64 {s n : Int32} (h : so s n) : ∃ a : Nat, a < 64 ∧ s = nI a := by
  obtain ⟨a, b, hb, ha, hs, -⟩ := so_nI h
  exact ⟨a, pw6 hb ha, hs⟩
theorem mem_ne {s n p : Int32} (h : so s n) (hp : vp_in p 6) (hm : ¬ f_X4_isOf s p = 0) : ¬ s = 0 := by
  intro e
  have h1 := vp_in_iff.mp hp
  have := t_of0 ⟨p.toInt.toNat, by omega⟩
  rw [← i_nI h1.1] at this
  rw [e] at hm
  exact hm this
theorem mem_sz {s n p : Int32} (hn : n.toInt ≤ 6) (hp : 0 ≤ p.toInt ∧ p.toInt < n.toInt) (h0 : 0 ≤ s.toInt) (c : ¬ (1 : Int32) <<< (n &&& 31) ≤ s) (hm : ¬ f_X4_isOf s p = 0) : ¬ f_X4_size s = 0 := by
  have hs : so s n := bnd_so ⟨by omega, hn⟩ h0 c
  exact so_sz hs (mem_ne hs (q_in hn hp) hm)
theorem od_0 {a b n : Int32} (h : 0 ≤ a.toInt ∧ a.toInt ≤ b.toInt) (c : ¬ n ≤ b) : 0 ≤ (a + (0 : Int32)).toInt ∧ (a + (0 : Int32)).toInt ≤ (b + (1 : Int32)).toInt := by
  rw [lp_s c, Int32.add_zero]; omega
theorem od_1 {a b n : Int32} (h : 0 ≤ a.toInt ∧ a.toInt ≤ b.toInt) (c : ¬ n ≤ b) : 0 ≤ (a + (1 : Int32)).toInt ∧ (a + (1 : Int32)).toInt ≤ (b + (1 : Int32)).toInt := by
  have h1 := lp_s c
  rw [fa_le] at c
  have h2 := fb_rng n
  have h3 : (a + (1 : Int32)).toInt = a.toInt + 1 := by
    rw [fb_addI] <;> rw [show (1 : Int32).toInt = 1 from rfl] <;> omega
  omega
theorem w_nn {x : Int32} (h : 0 ≤ x.toInt) : 0 ≤ (x.toInt64).toInt := by rw [Int32.toInt_toInt64]; exact h
theorem w_ps {x : Int32} (h : 0 < x.toInt) : 0 < (x.toInt64).toInt := by rw [Int32.toInt_toInt64]; exact h
theorem t_shl : ∀ b : Fin 7, 0 < ((1 : Int64) <<< ((nI b.val).toInt64 &&& 63)).toInt := by decide +kernel
theorem od_d {n : Int32} (h : 0 ≤ n.toInt ∧ n.toInt ≤ 6) : 0 < ((1 : Int64) <<< (n.toInt64 &&& 63)).toInt := by
  have e := i_nI h.1
  have := t_shl ⟨n.toInt.toNat, by omega⟩
  rw [← e] at this
  exact this
theorem t_sz6 : ∀ a : Fin 64, 0 ≤ (f_X4_size (nI a.val)).toInt ∧ (f_X4_size (nI a.val)).toInt ≤ 6 := by decide +kernel
theorem t_szp : ∀ a : Fin 64, a.val ≠ 0 → 0 < (f_X4_size (nI a.val)).toInt := by decide +kernel
theorem so_sz6 {s n : Int32} (h : so s n) : 0 ≤ (f_X4_size s).toInt ∧ (f_X4_size s).toInt ≤ 6 := by
  obtain ⟨a, ha, rfl⟩ := so_64 h
  exact t_sz6 ⟨a, ha⟩
theorem so_szp {s n : Int32} (h : so s n) (c : ¬ s = 0) : 0 < (f_X4_size s).toInt := by
  obtain ⟨a, ha, rfl⟩ := so_64 h
  exact t_szp ⟨a, ha⟩ (fun e => c (by rw [show a = 0 from e]; rfl))
theorem t_fac : ∀ a b : Fin 7, 1 ≤ (f_X4_factorial (nI a.val - (1 : Int32) - nI b.val)).toInt ∧ (f_X4_factorial (nI a.val - (1 : Int32) - nI b.val)).toInt ≤ 720 := by decide +kernel
theorem t_fac1 : ∀ a : Fin 7, 1 ≤ (f_X4_factorial (nI a.val)).toInt ∧ (f_X4_factorial (nI a.val)).toInt ≤ 720 := by decide +kernel
theorem fac1 {x : Int32} (h : 0 ≤ x.toInt ∧ x.toInt ≤ 6) : 1 ≤ (f_X4_factorial x).toInt ∧ (f_X4_factorial x).toInt ≤ 720 := by
  have := t_fac1 ⟨x.toInt.toNat, by omega⟩
  rw [← i_nI h.1] at this
  exact this
theorem fac2 {x y : Int32} (h : 0 ≤ x.toInt ∧ x.toInt ≤ 6) (h2 : 0 ≤ y.toInt ∧ y.toInt ≤ 6) : 1 ≤ (f_X4_factorial (x - (1 : Int32) - y)).toInt ∧ (f_X4_factorial (x - (1 : Int32) - y)).toInt ≤ 720 := by
  have := t_fac ⟨x.toInt.toNat, by omega⟩ ⟨y.toInt.toNat, by omega⟩
  rw [← i_nI h.1, ← i_nI h2.1] at this
  exact this
theorem fac_h {x y : Int32} (h : 0 ≤ x.toInt ∧ x.toInt ≤ 6) (h2 : 0 ≤ y.toInt ∧ y.toInt ≤ 6) : (x - (1 : Int32) - y).toInt ≤ 1000000 := by
  have h3 : (x - (1 : Int32)).toInt = x.toInt - 1 := fb_subI (by rw [show (1 : Int32).toInt = 1 from rfl]; omega) (by rw [show (1 : Int32).toInt = 1 from rfl]; omega)
  rw [fb_subI (by omega) (by omega), h3]
  omega
/-- the orders that are counted stay small -/
theorem wo_1 {a : Int64} {s n x : Int32} (h : 0 ≤ a.toInt ∧ a.toInt ≤ s.toInt * 518400) (hs : 0 ≤ s.toInt ∧ s.toInt ≤ 64) (hx : 0 ≤ x.toInt ∧ x.toInt ≤ 6) (hz : 0 ≤ (f_X4_size s).toInt ∧ (f_X4_size s).toInt ≤ 6) (c : ¬ n ≤ s) : 0 ≤ (a + f_X4_factorial (f_X4_size s) * f_X4_factorial (x - (1 : Int32) - f_X4_size s)).toInt ∧ (a + f_X4_factorial (f_X4_size s) * f_X4_factorial (x - (1 : Int32) - f_X4_size s)).toInt ≤ (s + (1 : Int32)).toInt * 518400 := by
  have h1 := fac1 hz
  have h2 := fac2 hx hz
  rw [lp_s c]
  generalize f_X4_factorial (f_X4_size s) = u at *
  generalize f_X4_factorial (x - (1 : Int32) - f_X4_size s) = v at *
  have h3 : 0 ≤ u.toInt * v.toInt := Int.mul_nonneg (by omega) (by omega)
  have h4 : u.toInt * v.toInt ≤ 720 * 720 := Int.mul_le_mul h1.2 h2.2 (by omega) (by omega)
  have h5 : (u * v).toInt = u.toInt * v.toInt := fb_mulL (by omega) (by omega)
  rw [fb_addL (by omega) (by omega), h5]
  omega
theorem wo_0 {a : Int64} {s n : Int32} (h : 0 ≤ a.toInt ∧ a.toInt ≤ s.toInt * 518400) (c : ¬ n ≤ s) : 0 ≤ a.toInt ∧ a.toInt ≤ (s + (1 : Int32)).toInt * 518400 := by
  rw [lp_s c]; omega
theorem s64 {s n : Int32} (h : 0 ≤ n.toInt ∧ n.toInt ≤ 6) (h0 : 0 ≤ s.toInt) (c : ¬ (1 : Int32) <<< (n &&& 31) ≤ s) : 0 ≤ s.toInt ∧ s.toInt ≤ 64 := by
  obtain ⟨a, ha, rfl⟩ := so_64 (bnd_so h h0 c)
  rw [nI_toInt (by omega)]
  omega
theorem lv_601 {v : Int32} {k : Nat} (h0 : 0 ≤ v.toInt) (h : v.toInt < 600) (hk : (601 - v.toInt).toNat < k + 1) : (601 - (v + (1 : Int32)).toInt).toNat < k := by
  have h1 : (v + (1 : Int32)).toInt = v.toInt + 1 := by
    rw [fb_addI] <;> rw [show (1 : Int32).toInt = 1 from rfl] <;> omega
  omega
theorem lv_nn {v : Int32} (h0 : 0 ≤ v.toInt) (h : v.toInt < 600) : 0 ≤ (v + (1 : Int32)).toInt := by
  have h1 : (v + (1 : Int32)).toInt = v.toInt + 1 := by
    rw [fb_addI] <;> rw [show (1 : Int32).toInt = 1 from rfl] <;> omega
  omega
/-! keep and putBack leave the people's number -/
theorem kp_L (M : MS) : ∀ (k : Nat) (x1 : Int32) (v : MS), M_people (fL_X4_keep_18 M k x1 v) = M_people v := by
  intro k
  induction k with
  | zero => intros; rfl
  | succ k ih =>
    intro x1 v
    rw [fL_X4_keep_18]
    split
    · rfl
    · exact ih _ _
theorem keep_c {M : MS} (hn : (M_people M).toInt ≤ 6) : (M_people (f_X4_keep M)).toInt ≤ 6 := by
  unfold f_X4_keep
  rw [kp_L]
  exact hn
/-! a gathering: how many gave, and what the one has then -/
theorem dg_L (M : MS) (p : Int32) (hn : (M_people M).toInt ≤ 6) (hp : 0 ≤ p.toInt) : ∀ (k : Nat) (x2 x3 : Int32) (P : Nat → Int32), 0 ≤ x3.toInt → x3.toInt ≤ 6 → 0 ≤ x2.toInt → x2.toInt ≤ x3.toInt → ((M_people M).toInt - x3.toInt).toNat < k → ∃ g : Int32, (0 ≤ g.toInt ∧ g.toInt ≤ 6) ∧ (fL_X4_doGather_4 M p k x2 x3 P).1 = g ∧ M_parts (fL_X4_doGather_4 M p k x2 x3 P).2 p.toNatClampNeg = P p.toNatClampNeg + g ∧ M_people (fL_X4_doGather_4 M p k x2 x3 P).2 = M_people M := by
  intro k
  induction k with
  | zero => intro x2 x3 P h0 h1 h2 h3 hk; exact absurd hk (Nat.not_lt_zero _)
  | succ k ih =>
    intro x2 x3 P h0 h1 h2 h3 hk
    rw [fL_X4_doGather_4]
    split
    · refine ⟨x2, ⟨h2, by omega⟩, rfl, ?_, rfl⟩
      exact pk_us
    · rename_i c
      have e3 := lp_s c
      have c' := lp_lt c
      have hk' := lp_mu h0 c hk
      split
      · exact ih _ _ _ (by omega) (by omega) h2 (by omega) hk'
      · rename_i hne
        split
        · exact ih _ _ _ (by omega) (by omega) h2 (by omega) hk'
        · split
          · exact ih _ _ _ (by omega) (by omega) h2 (by omega) hk'
          · have e2 : (x2 + (1 : Int32)).toInt = x2.toInt + 1 := by
              rw [fb_addI] <;> rw [show (1 : Int32).toInt = 1 from rfl] <;> omega
            have hq : p.toNatClampNeg ≠ x3.toNatClampNeg := by
              intro e
              apply hne
              rw [fa_eq]
              rw [Int32.toNatClampNeg, Int32.toNatClampNeg] at e
              omega
            obtain ⟨g, g1, g2, g3, g4⟩ := ih (x2 + (1 : Int32)) (x3 + (1 : Int32)) (upd P x3.toNatClampNeg ((P x3.toNatClampNeg) - (1 : Int32))) (by omega) (by omega) (by omega) (by omega) hk'
            refine ⟨g, g1, g2, ?_, g4⟩
            rw [g3, pk_un hq]
theorem gth {M : MS} {p : Int32} (hn : (M_people M).toInt ≤ 6) (hp : vp_in p 6) : ∃ g : Int32, (0 ≤ g.toInt ∧ g.toInt ≤ 6) ∧ (f_X4_doGather M p).1 = g ∧ M_parts (f_X4_doGather M p).2 p.toNatClampNeg = M_parts M p.toNatClampNeg + g ∧ M_people (f_X4_doGather M p).2 = M_people M :=
  dg_L M p hn (vp_in_iff.mp hp).1 7 0 0 _ (by decide) (by decide) (by decide) (by decide) (le6_mu hn)
theorem gth_c {M : MS} {p : Int32} (hn : (M_people M).toInt ≤ 6) (hp : vp_in p 6) : (M_people (f_X4_doGather M p).2).toInt ≤ 6 := by
  obtain ⟨g, -, -, -, h⟩ := gth hn hp
  rw [h]
  exact hn
theorem gth_mu {M : MS} {p v g0 : Int32} {k : Nat} (hn : (M_people M).toInt ≤ 6) (hp : vp_in p 6) (hv : v.toInt ≤ 300) (c : ¬ v ≤ (M_parts M) p.toNatClampNeg) (c2 : ¬ g0 ≤ 0) (hk : (v.toInt - ((M_parts M) p.toNatClampNeg).toInt).toNat * 2 + (if 0 < g0.toInt then 1 else 0) < k + 1) : (v.toInt - ((M_parts (f_X4_doGather M p).2) p.toNatClampNeg).toInt).toNat * 2 + (if 0 < ((f_X4_doGather M p).1).toInt then 1 else 0) < k := by
  obtain ⟨g, g1, g2, g3, -⟩ := gth hn hp
  rw [g2, g3]
  rw [fa_le] at c
  rw [fa_le, show (0 : Int32).toInt = 0 from rfl] at c2
  have h1 := fb_rng ((M_parts M) p.toNatClampNeg)
  rw [if_pos (by omega)] at hk
  rw [fb_addI (by omega) (by omega)]
  split <;> omega
