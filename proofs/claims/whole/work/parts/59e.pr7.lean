/-! up to what all can be brought -/
theorem lk_L {X : XS} {M : MS} (hR : Rel X M) {v : Int32} (hv : 0 ≤ v.toInt ∧ v.toInt ≤ 1000) : ∀ (k : Nat) (a p : Int32), 0 ≤ p.toInt → fL_X2_lackingUpTo_4 (X_now X) v k a p = fL_X4_missingTo_4 M v k a p := by
  intro k
  induction k with
  | zero => intros; rfl
  | succ k ih =>
    intro a p h0
    rw [fL_X2_lackingUpTo_4, fL_X4_missingTo_4, ← hR.1.1.1]
    unfold f_X2_isIn
    rw [mem_eq, ← hR.1.1.2.1]
    by_cases c : M_people M ≤ p
    · rw [if_pos c, if_pos c]
    · have hlt := cl_lt h0 c
      have hb := hR.bnd hlt
      have ht := hR.tin
      rw [if_neg c, if_neg c, ih _ _ (lp_pre h0 c), ih _ _ (lp_pre h0 c), ← (hR.1.2.2.1 _ hlt).2.1]
      have es : (v - M_parts M p.toNatClampNeg).toInt = v.toInt - (M_parts M p.toNatClampNeg).toInt := fb_subI (by omega) (by omega)
      by_cases c2 : f_X4_isOf (M_isIn M) p = 0
      · rw [if_pos c2, if_pos c2]
      · rw [if_neg c2, if_neg c2]
        by_cases c3 : v ≤ M_parts M p.toNatClampNeg
        · rw [if_pos c3, if_neg]
          rw [fa_le] at c3
          rw [fa_lt, es, i0]; omega
        · rw [if_neg c3, if_pos]
          rw [fa_le] at c3
          rw [fa_lt, es, i0]; omega
theorem lk_eq {X : XS} {M : MS} (hR : Rel X M) {v : Int32} (hv : 0 ≤ v.toInt ∧ v.toInt ≤ 1000) : f_X2_lackingUpTo (X_now X) v = f_X4_missingTo M v := lk_L hR hv 7 0 0 (by decide)
theorem ms_L {X : XS} {M : MS} (hR : Rel X M) {v : Int32} (hv : 0 ≤ v.toInt ∧ v.toInt ≤ 1000) : ∀ (k : Nat) (a p : Int32), 0 ≤ p.toInt → 0 ≤ a.toInt → a.toInt ≤ 1000 * p.toInt → ((M_people M).toInt - p.toInt).toNat < k → a.toInt ≤ (fL_X4_missingTo_4 M v k a p).toInt ∧ ∀ r : Int32, p.toInt ≤ r.toInt → r.toInt < (M_people M).toInt → ¬ f_X4_isOf (M_isIn M) r = 0 → a.toInt + (v.toInt - (M_parts M r.toNatClampNeg).toInt) ≤ (fL_X4_missingTo_4 M v k a p).toInt := by
  intro k
  induction k with
  | zero => intro a p _ _ _ h; exact absurd h (Nat.not_lt_zero _)
  | succ k ih =>
    intro a p h0 h1 h2 hk
    have h6 := hR.mn
    rw [fL_X4_missingTo_4]
    by_cases c : M_people M ≤ p
    · rw [if_pos c]
      rw [fa_le] at c
      exact ⟨Int.le_refl _, fun r g1 g2 _ => by omega⟩
    · have hlt := cl_lt h0 c
      have hb := hR.bnd hlt
      have ht := hR.tin
      have es := lp_s c
      have el : p.toInt < (M_people M).toInt := lp_lt c
      have esub : (v - M_parts M p.toNatClampNeg).toInt = v.toInt - (M_parts M p.toNatClampNeg).toInt := fb_subI (by omega) (by omega)
      rw [if_neg c]
      by_cases c2 : f_X4_isOf (M_isIn M) p = 0
      · rw [if_pos c2, Int32.add_zero]
        have h := ih a (p + (1 : Int32)) (by omega) h1 (by omega) (by omega)
        refine ⟨h.1, fun r g1 g2 g3 => ?_⟩
        by_cases e : r = p
        · rw [e] at g3; exact absurd c2 g3
        · have e' : r.toInt ≠ p.toInt := fun q => e ((fa_eq _ _).mpr q)
          exact h.2 r (by omega) g2 g3
      · rw [if_neg c2]
        by_cases c3 : v ≤ M_parts M p.toNatClampNeg
        · rw [if_pos c3, Int32.add_zero]
          rw [fa_le] at c3
          have h := ih a (p + (1 : Int32)) (by omega) h1 (by omega) (by omega)
          refine ⟨h.1, fun r g1 g2 g3 => ?_⟩
          by_cases e : r = p
          · rw [e]; omega
          · have e' : r.toInt ≠ p.toInt := fun q => e ((fa_eq _ _).mpr q)
            exact h.2 r (by omega) g2 g3
        · rw [if_neg c3]
          rw [fa_le] at c3
          have ea : (a + (v - M_parts M p.toNatClampNeg)).toInt = a.toInt + (v.toInt - (M_parts M p.toNatClampNeg).toInt) := by rw [fb_addI] <;> rw [esub] <;> omega
          have h := ih (a + (v - M_parts M p.toNatClampNeg)) (p + (1 : Int32)) (by omega) (by omega) (by omega) (by omega)
          rw [ea] at h
          refine ⟨by omega, fun r g1 g2 g3 => ?_⟩
          by_cases e : r = p
          · rw [e]; exact h.1
          · have e' : r.toInt ≠ p.toInt := fun q => e ((fa_eq _ _).mpr q)
            have h9 := h.2 r (by omega) g2 g3
            omega
theorem t_one : ∀ (b : Fin 7) (a : Fin 64), a.val < 2 ^ b.val → a.val ≠ 0 → ∃ r : Fin 6, r.val < b.val ∧ ¬ f_X4_isOf (nI a.val) (nI r.val) = 0 := by decide +kernel
theorem so_one {s n : Int32} (h : so s n) (c : ¬ s = 0) : ∃ r : Int32, (0 ≤ r.toInt ∧ r.toInt < n.toInt) ∧ ¬ f_X4_isOf s r = 0 := by
  obtain ⟨a, b, hb, hab, rfl, rfl⟩ := so_nI h
  obtain ⟨r, h1, h2⟩ := t_one ⟨b, by omega⟩ ⟨a, pw6 hb hab⟩ hab (fun e => c (by show nI a = 0; rw [show a = 0 from e]; rfl))
  have hr := r.2
  refine ⟨nI r.val, ?_, h2⟩
  rw [nI_toInt (by omega), nI_toInt (by omega)]
  have h3 : r.val < b := h1
  omega
theorem lv_key {X : XS} {M : MS} (hR : Rel X M) (hi : ¬ (M_isIn M) = 0) {v : Int32} (hv : 0 ≤ v.toInt ∧ v.toInt ≤ 1000) (h : f_X4_missingTo M v ≤ M_tin M) : v.toInt ≤ 283 := by
  obtain ⟨r, hr, hm⟩ := so_one hR.so hi
  have h6 := hR.mn
  have h1 := (ms_L hR hv 7 0 0 (by decide) (by decide) (by decide) (by rw [i0]; omega)).2 r hr.1 hr.2 hm
  have hb := hR.bnd (q_cl hr)
  rw [fa_le] at h
  have h2 : (fL_X4_missingTo_4 M v 7 0 0).toInt ≤ (M_tin M).toInt := h
  rw [i0] at h1
  omega
theorem rel_hlv {X : XS} {M : MS} (hR : Rel X M) : ¬ (M_isIn M) = 0 → ∀ v : Int32, 0 ≤ v.toInt ∧ v.toInt ≤ 600 → f_X4_missingTo M (v + (1 : Int32)) ≤ M_tin M → (0 ≤ (v + (1 : Int32)).toInt ∧ (v + (1 : Int32)).toInt ≤ 600) ∧ v.toInt < 600 := by
  intro hi v hv h
  have e : (v + (1 : Int32)).toInt = v.toInt + 1 := by rw [fb_addI] <;> rw [i1] <;> omega
  have h1 := lv_key hR hi (v := v + (1 : Int32)) (by omega) h
  omega
theorem i300 : (300 : Int32).toInt = 300 := rfl
theorem lev_L {X : XS} {M : MS} (hR : Rel X M) (hi : ¬ (M_isIn M) = 0) (x1 : Int32) : ∀ (k k' : Nat) (x : Int32), 0 ≤ x.toInt → x.toInt ≤ 283 → 284 - x.toInt ≤ k → 284 - x.toInt ≤ k' → fL_X3_level_29 X x1 k x (x + (1 : Int32)) = fL_X4_level_24 M x1 k' x := by
  intro k
  induction k with
  | zero => intro k' x h0 h1 h2 h3; exact absurd h2 (by omega)
  | succ k ih =>
    intro k' x h0 h1 h2 h3
    cases k' with
    | zero => exact absurd h3 (by omega)
    | succ k' =>
      have e : (x + (1 : Int32)).toInt = x.toInt + 1 := by rw [fb_addI] <;> rw [i1] <;> omega
      rw [fL_X3_level_29, fL_X4_level_24, if_neg (show ¬ (300 : Int32) < x + (1 : Int32) by rw [fa_lt, i300]; omega), lk_eq hR (v := x + (1 : Int32)) (by omega), lk_eq hR (v := x) (by omega), ← hR.1.1.2.2]
      by_cases c : M_tin M < f_X4_missingTo M (x + (1 : Int32))
      · rw [if_pos c, if_pos c]
      · rw [if_neg c, if_neg c]
        have h5 := lv_key hR hi (v := x + (1 : Int32)) (by omega) (fa_of_nlt c)
        exact ih k' _ (by omega) (by omega) (by omega) (by omega)
theorem rel_level {X : XS} {M : MS} (hR : Rel X M) (x1 : Int32) : (f_X3_level X x1) = (f_X4_level M x1) := by
  unfold f_X3_level f_X4_level
  rw [wi_ite, le_ite, ← hR.1.1.2.1]
  by_cases c : M_isIn M = 0
  · rw [if_pos c, if_pos c]
  · rw [if_neg c, if_neg c]
    have h := lev_L hR c x1 302 602 (0 : Int32) (by decide) (by decide) (by decide) (by decide)
    rw [show ((0 : Int32) + (1 : Int32)) = (1 : Int32) from rfl] at h
    rw [h]
