/-! what each vote is worth -/
theorem t_o1 : ∀ a : Fin 64, (f_X3_ordersOf (nI a.val)).toInt64 = f_X4_factorial (f_X4_size (nI a.val)) ∧ 1 ≤ (f_X3_ordersOf (nI a.val)).toInt ∧ (f_X3_ordersOf (nI a.val)).toInt ≤ 720 := by decide +kernel
theorem t_o2 : ∀ a s : Fin 64, (nI s.val &&& (nI a.val ^^^ (-1 : Int32))) = 0 → (f_X3_ordersOf (nI a.val &&& (nI s.val ^^^ (-1 : Int32)))).toInt64 = f_X4_factorial (f_X4_size (nI a.val) - f_X4_size (nI s.val)) ∧ 1 ≤ (f_X3_ordersOf (nI a.val &&& (nI s.val ^^^ (-1 : Int32)))).toInt ∧ (f_X3_ordersOf (nI a.val &&& (nI s.val ^^^ (-1 : Int32)))).toInt ≤ 720 := by decide +kernel
theorem t_o3 : ∀ (a : Fin 64) (j : Fin 6), ¬ f_X4_isOf (nI a.val) (nI j.val) = 0 → f_X4_size (nI a.val &&& (((1 : Int32) <<< (nI j.val &&& 31)) ^^^ (-1 : Int32))) = f_X4_size (nI a.val) - (1 : Int32) := by decide +kernel
theorem so_o1 {s n : Int32} (h : so s n) : (f_X3_ordersOf s).toInt64 = f_X4_factorial (f_X4_size s) ∧ 1 ≤ (f_X3_ordersOf s).toInt ∧ (f_X3_ordersOf s).toInt ≤ 720 := by
  obtain ⟨a, ha, rfl⟩ := so_64 h
  exact t_o1 ⟨a, ha⟩
theorem so_o2 {o s n m : Int32} (ho : so o n) (hs : so s m) (c : (s &&& (o ^^^ (-1 : Int32))) = 0) : (f_X3_ordersOf (o &&& (s ^^^ (-1 : Int32)))).toInt64 = f_X4_factorial (f_X4_size o - f_X4_size s) ∧ 1 ≤ (f_X3_ordersOf (o &&& (s ^^^ (-1 : Int32)))).toInt ∧ (f_X3_ordersOf (o &&& (s ^^^ (-1 : Int32)))).toInt ≤ 720 := by
  obtain ⟨a, ha, rfl⟩ := so_64 ho
  obtain ⟨b, hb, rfl⟩ := so_64 hs
  exact t_o2 ⟨a, ha⟩ ⟨b, hb⟩ c
theorem so_o3 {s n p : Int32} (h : so s n) (hp : 0 ≤ p.toInt ∧ p.toInt < 6) (c : ¬ f_X4_isOf s p = 0) : f_X4_size (s &&& (((1 : Int32) <<< (p &&& 31)) ^^^ (-1 : Int32))) = f_X4_size s - (1 : Int32) := by
  obtain ⟨a, ha, rfl⟩ := so_64 h
  obtain ⟨j, h1, rfl, h2⟩ := nn_I hp.1
  exact t_o3 ⟨a, ha⟩ ⟨j, by omega⟩ c
theorem ml_64 {i j l : Nat} (h : i + j * l < 2 ^ 31) (hi : i < 2 ^ 31) (hj : j < 2 ^ 31) (hl : l < 2 ^ 31) : (nI i + nI j * nI l).toInt64 = (nI i).toInt64 + (nI j).toInt64 * (nI l).toInt64 := by
  have e : nI i + nI j * nI l = nI (i + j * l) := by
    rw [← nI_add]
    exact congrArg (fun t => nI i + t) (Int32.ofNat_mul j l).symm
  rw [e, nI_l h, nI_l hi, nI_l hj, nI_l hl, lN_mul, lN_add]
theorem ad_64 {a u v : Int32} {N : Int} (ha : 0 ≤ a.toInt ∧ a.toInt ≤ N) (hN : N ≤ 100000000) (hu : 1 ≤ u.toInt ∧ u.toInt ≤ 720) (hv : 1 ≤ v.toInt ∧ v.toInt ≤ 720) : (a + u * v).toInt64 = a.toInt64 + u.toInt64 * v.toInt64 ∧ 0 ≤ (a + u * v).toInt ∧ (a + u * v).toInt ≤ a.toInt + 518400 := by
  obtain ⟨i, i1, e1, i2⟩ := nn_I ha.1
  obtain ⟨j, j1, e2, j2⟩ := nn_I (x := u) (by omega)
  obtain ⟨l, l1, e3, l2⟩ := nn_I (x := v) (by omega)
  have hm : j * l ≤ 720 * 720 := Nat.mul_le_mul (by omega) (by omega)
  have e : (a + u * v).toInt64 = a.toInt64 + u.toInt64 * v.toInt64 := by rw [e1, e2, e3, ml_64 (by omega) i1 j1 l1]
  refine ⟨e, ?_⟩
  have e' : nI i + nI j * nI l = nI (i + j * l) := by
    rw [← nI_add]
    exact congrArg (fun t => nI i + t) (Int32.ofNat_mul j l).symm
  rw [e1, e2, e3, e', nI_toInt (by omega), nI_toInt (by omega)]
  omega
theorem wo_L {X : XS} {M : MS} (hR : Rel X M) {p : Int32} (hp : 0 ≤ p.toInt ∧ p.toInt < (M_people M).toInt) (x2 W : Int32) {o z : Int32} (ho : so o (M_people M)) (hz : z - (1 : Int32) = f_X4_size o) : ∀ (k : Nat) (a s : Int32), 0 ≤ s.toInt → s.toInt ≤ 64 → (0 ≤ a.toInt ∧ a.toInt ≤ s.toInt * 518400) → (((1 : Int32) <<< ((M_people M) &&& 31)).toInt - s.toInt).toNat < k → fL_X4_worth_68 M p x2 W o z k a.toInt64 s = f_X4_inLeastTerms (fL_X3_ordersDecidedBy_35 X p o W k a s).toInt64 (f_X4_factorial z) x2 ∧ 0 ≤ (fL_X3_ordersDecidedBy_35 X p o W k a s).toInt := by
  intro k
  induction k with
  | zero => intro a s h0 _ h1 h2; exact absurd h2 (Nat.not_lt_zero _)
  | succ k ih =>
    intro a s h0 h64 h1 h2
    have ep := (hR.1.2.2.1 _ (q_cl hp)).2.1
    rw [fL_X3_ordersDecidedBy_35, fL_X4_worth_68, al_eq hR, po_eq hR, ← ep]
    by_cases g : (1 : Int32) <<< ((M_people M) &&& 31) ≤ s
    · rw [if_pos g, if_pos g]
      exact ⟨rfl, h1.1⟩
    · rw [if_neg g, if_neg g]
      have hs := bnd_so hR.so.1 h0 g
      have hl := so_lt hs
      have es : (s + (1 : Int32)).toInt = s.toInt + 1 := by rw [fb_addI] <;> rw [i1] <;> omega
      rw [fa_le] at g
      have skip := ih a (s + (1 : Int32)) (by omega) (by omega) (by omega) (by omega)
      by_cases c1 : (s &&& (o ^^^ (-1 : Int32))) = 0
      · rw [if_pos c1, if_pos c1]
        by_cases c2 : W < ((2 : Int32) * (f_X4_partsOf M s))
        · rw [if_pos c2, if_pos c2]; exact skip
        · rw [if_neg c2, if_neg c2]
          by_cases c3 : ((2 : Int32) * ((f_X4_partsOf M s) + ((M_parts M) p.toNatClampNeg))) ≤ W
          · rw [if_pos c3, if_pos c3]; exact skip
          · rw [if_neg c3, if_neg c3]
            have q1 := so_o1 hs
            have q2 := so_o2 ho hs c1
            have q3 := ad_64 (N := 64 * 518400) ⟨h1.1, by omega⟩ (by decide) q1.2 q2.2
            rw [hz, ← q1.1, ← q2.1, ← q3.1]
            exact ih _ (s + (1 : Int32)) (by omega) (by omega) (by omega) (by omega)
      · rw [if_neg c1, if_neg c1]; exact skip
theorem rel_worth {X : XS} {M : MS} (hR : Rel X M) (x1 x2 : Int32) : (f_X3_worth X x1 x2) = (f_X4_worth M x1 x2) := by
  unfold f_X3_worth f_X4_worth f_X3_ordersDecidedBy f_X2_isIn
  rw [rel_has hR, hs_ite, mem_eq, ← hR.1.1.2.1]
  by_cases c : f_X4_isPerson M x1 = 0
  · rw [if_pos c, if_pos c]
  · rw [if_neg c, if_neg c]
    by_cases c2 : f_X4_isOf (M_isIn M) x1 = 0
    · rw [if_pos c2, if_pos c2]
    · have hp := mi_r c
      have h6 := hR.mn
      have hb := (pw_b hR.so.1).1
      have q := wo_L hR hp x2 (f_X4_partsOf M (M_isIn M)) (o := (M_isIn M) &&& (((1 : Int32) <<< (x1 &&& 31)) ^^^ (-1 : Int32))) (z := f_X4_size (M_isIn M)) (so_bits hR.so hp).1 (so_o3 hR.so ⟨hp.1, by omega⟩ c2).symm (((1 : Int32) <<< ((M_people M) &&& 31)).toInt.toNat + 1) (0 : Int32) (0 : Int32) (by decide) (by decide) ⟨by decide, by decide⟩ (by rw [i0]; omega)
      have q1 := so_o1 hR.so
      rw [if_neg c2, if_neg c2, al_eq hR, po_eq hR, gt_32 q.2 (by omega) (by omega), q1.1]
      rw [← q.1]
      rfl
