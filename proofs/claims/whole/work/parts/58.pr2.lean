theorem po_L {X : XS} {M : MS} (hR : Rel X M) (s : Int32) : ∀ (k : Nat) (a p : Int32), 0 ≤ p.toInt → fL_X2_partsOf_4 (X_now X) s k a p = fL_X4_partsOf_4 M s k a p := by
  intro k
  induction k with
  | zero => intros; rfl
  | succ k ih =>
    intro a p h0
    rw [fL_X2_partsOf_4, fL_X4_partsOf_4, ← hR.1.1.1, mem_eq]
    by_cases c : M_people M ≤ p
    · rw [if_pos c, if_pos c]
    · rw [if_neg c, if_neg c, ih _ _ (lp_pre h0 c), ih _ _ (lp_pre h0 c), (hR.1.2.2.1 _ (cl_lt h0 c)).2.1]
theorem po_eq {X : XS} {M : MS} (hR : Rel X M) (s : Int32) : f_X2_partsOf (X_now X) s = f_X4_partsOf M s := po_L hR s 7 0 0 (by decide)
theorem sa_L {X : XS} {M : MS} (hR : Rel X M) : ∀ (k : Nat) (a p : Int32), 0 ≤ p.toInt → fL_X2_allSay_4 (X_now X) k a p = fL_X4_saidNow_4 M k a p := by
  intro k
  induction k with
  | zero => intros; rfl
  | succ k ih =>
    intro a p h0
    rw [fL_X2_allSay_4, fL_X4_saidNow_4, ← hR.1.1.1]
    unfold f_X2_isIn f_X2_saysNow
    rw [mem_eq, ← hR.1.1.2.1]
    by_cases c : M_people M ≤ p
    · rw [if_pos c, if_pos c]
    · have hp := hR.1.2.2.1 _ (cl_lt h0 c)
      rw [if_neg c, if_neg c, ih _ _ (lp_pre h0 c), ih _ _ (lp_pre h0 c), ← hp.2.1, says_eq hp hp.2.2.2.2.1]
theorem sa_eq {X : XS} {M : MS} (hR : Rel X M) : f_X2_allSay (X_now X) = f_X4_saidNow M := sa_L hR 7 0 0 (by decide)
theorem rel_heard {X : XS} {M : MS} (hR : Rel X M) (x1 : Int32) : (f_X3_heard X x1) = (f_X4_heard M x1) := by
  unfold f_X3_heard f_X4_heard
  rw [wi_ite, le_ite, sa_eq hR, po_eq hR, ← hR.1.1.1, ← hR.1.1.2.1]
theorem sumP_mono (P : Nat → Int32) (N : Nat) (h : ∀ i, i < N → 0 ≤ (P i).toInt) : ∀ n : Nat, n ≤ N → sumP P n ≤ sumP P N := by
  induction N with
  | zero => intro n hn; rw [show n = 0 by omega]; exact Int.le_refl _
  | succ N ih =>
    intro n hn
    by_cases e : n = N + 1
    · rw [e]; exact Int.le_refl _
    · have h1 := ih (fun i hi => h i (by omega)) n (by omega)
      have h2 := h N (by omega)
      show sumP P n ≤ sumP P N + (P N).toInt
      omega
/-- what a set has, all in all -/
theorem pb_L {X : XS} {M : MS} (hR : Rel X M) (s : Int32) : ∀ (k : Nat) (a p : Int32), 0 ≤ p.toInt → p.toInt ≤ (M_people M).toInt → 0 ≤ a.toInt → a.toInt ≤ sumP (M_parts M) p.toInt.toNat → ((M_people M).toInt - p.toInt).toNat < k → 0 ≤ (fL_X4_partsOf_4 M s k a p).toInt ∧ (fL_X4_partsOf_4 M s k a p).toInt ≤ sumP (M_parts M) (M_people M).toInt.toNat := by
  intro k
  induction k with
  | zero => intro a p _ _ _ _ h; exact absurd h (Nat.not_lt_zero _)
  | succ k ih =>
    intro a p h0 h1 h2 h3 hk
    have hmono := (sumP_nn (M_parts M) _ hR.pn)
    rw [fL_X4_partsOf_4]
    by_cases c : M_people M ≤ p
    · rw [if_pos c]
      rw [fa_le] at c
      rw [show (M_people M).toInt = p.toInt by omega]
      exact ⟨h2, h3⟩
    · rw [if_neg c]
      have es := lp_s c
      have el : p.toInt < (M_people M).toInt := lp_lt c
      have hp := hR.pn p.toInt.toNat (by omega)
      have e2 : (p.toInt + 1).toNat = p.toInt.toNat + 1 := by omega
      have e3 : sumP (M_parts M) (p + (1 : Int32)).toInt.toNat = sumP (M_parts M) p.toInt.toNat + (M_parts M p.toInt.toNat).toInt := by
        rw [es, e2]; rfl
      have hle : sumP (M_parts M) p.toInt.toNat + (M_parts M p.toInt.toNat).toInt ≤ 283 := by
        have h9 := sumP_mono (M_parts M) (M_people M).toInt.toNat hR.pn
        have h8 := h9 (p.toInt.toNat + 1) (by omega)
        have h7 := hR.1.2.2.2
        have h6 : sumP (M_parts M) (p.toInt.toNat + 1) = sumP (M_parts M) p.toInt.toNat + (M_parts M p.toInt.toNat).toInt := rfl
        omega
      by_cases c2 : f_X4_isOf s p = 0
      · rw [if_pos c2]
        refine ih _ _ (by omega) (by omega) (by rw [Int32.add_zero]; exact h2) (by rw [Int32.add_zero, e3]; omega) (by omega)
      · rw [if_neg c2]
        have e4 : M_parts M p.toNatClampNeg = M_parts M p.toInt.toNat := rfl
        have e5 : (a + M_parts M p.toNatClampNeg).toInt = a.toInt + (M_parts M p.toInt.toNat).toInt := by rw [e4, fb_addI (by omega) (by omega)]
        exact ih _ _ (by omega) (by omega) (by omega) (by omega) (by omega)
theorem po_bnd {X : XS} {M : MS} (hR : Rel X M) (s : Int32) : 0 ≤ (f_X4_partsOf M s).toInt ∧ (f_X4_partsOf M s).toInt ≤ 283 := by
  have h := pb_L hR s 7 0 0 (by decide) (by have := hR.so.1.1; exact this) (by decide) (by show (0 : Int) ≤ 0; exact Int.le_refl _) (le6_mu hR.mn)
  have h2 := hR.1.2.2.2
  exact ⟨h.1, by have := h.2; show (fL_X4_partsOf_4 M s 7 0 0).toInt ≤ 283; omega⟩
theorem rel_hpo {X : XS} {M : MS} (hR : Rel X M) : 0 ≤ (f_X4_partsOf M (M_isIn M)).toInt := (po_bnd hR _).1
/-! the acts, one by one -/
theorem acts_0 (T : TN) (p : Int32) : f_X2_acts T p (0 : Int32) = if (T_inside T) = 0 then ((-3 : Int32), T) else f_X2_shareFrom T p := by
  unfold f_X2_acts
  rw [if_pos rfl]
  split
  · rfl
  · rw [if_neg (by decide), if_pos rfl]
theorem acts_1 (T : TN) (p : Int32) : f_X2_acts T p (1 : Int32) = if (f_X2_isIn T p) = (1 : Int32) then f_X2_goOut T p else ((-3 : Int32), T) := by
  unfold f_X2_acts
  rw [if_neg (by decide), if_neg (by decide)]
  split
  · rw [if_neg (by decide), if_neg (by decide), if_pos rfl]
  · rfl
theorem acts_2 (T : TN) (p : Int32) : f_X2_acts T p (2 : Int32) = if (f_X2_isIn T p) = (0 : Int32) then ((f_X2_heads (T_inside' T ((T_inside T) ||| ((1 : Int32) <<< (p &&& 31))))), (T_inside' T ((T_inside T) ||| ((1 : Int32) <<< (p &&& 31))))) else ((-3 : Int32), T) := by
  unfold f_X2_acts
  rw [if_neg (by decide), if_pos rfl]
  split
  · rw [if_neg (by decide), if_neg (by decide), if_neg (by decide), if_pos rfl]
  · rfl
theorem acts_3 (T : TN) (p : Int32) : f_X2_acts T p (3 : Int32) = if (f_X2_isIn T p) = (1 : Int32) then f_X2_giveTo T p else ((-3 : Int32), T) := by
  unfold f_X2_acts
  rw [if_neg (by decide), if_neg (by decide)]
  split
  · rw [if_neg (by decide), if_neg (by decide), if_neg (by decide), if_neg (by decide), if_pos rfl]
  · rfl
theorem acts_4 (T : TN) (p : Int32) : f_X2_acts T p (4 : Int32) = if (f_X2_isIn T p) = (1 : Int32) then (if (T_tin T) = 0 then ((-3 : Int32), T) else f_X2_emptyTinFor T p) else ((-3 : Int32), T) := by
  unfold f_X2_acts
  rw [if_neg (by decide), if_neg (by decide)]
  split
  · rw [if_pos rfl]
    split
    · rfl
    · rw [if_neg (by decide), if_neg (by decide), if_neg (by decide), if_neg (by decide)]
  · rfl
theorem is01 {α : Type} (s p : Int32) (A B : α) : (if f_X3_isMember s p = (1 : Int32) then A else B) = (if f_X4_isOf s p = 0 then B else A) := by
  rw [mem_eq]
  rcases bb_X3_isMember s p with h | h
  · have h2 : f_X4_isOf s p = 0 := h
    rw [h2, if_neg (by decide), if_pos rfl]
  · have h2 : f_X4_isOf s p = 1 := h
    rw [h2, if_pos rfl, if_neg (by decide)]
theorem rel_come {X : XS} {M : MS} (hR : Rel X M) (x1 : Int32) : (f_X3_come X x1).1 = (f_X4_come M x1).1 ∧ Rel (f_X3_come X x1).2 (f_X4_come M x1).2 := by
  unfold f_X3_come f_X4_come f_X3_act
  rw [rel_has hR, acts_2]
  unfold f_X2_isIn f_X2_heads
  rw [mem_eq, ← hR.1.1.2.1]
  by_cases c1 : f_X4_isPerson M x1 = 0
  · simp only [if_pos c1]; exact ⟨trivial, hR⟩
  · simp only [if_neg c1]
    by_cases c2 : f_X4_isOf (M_isIn M) x1 = 0
    · rw [if_pos c2, if_pos c2]
      have hs := (so_bits hR.so (mi_r c1)).2
      exact ⟨so_bs hs, ⟨⟨hR.1.1.1, rfl, hR.1.1.2.2⟩, hs, hR.1.2.2.1, hR.1.2.2.2⟩, hR.2.1, hR.2.2.1, hR.2.2.2⟩
    · rw [if_neg c2, if_neg c2]
      exact ⟨rfl, hR⟩
theorem rel_open {X : XS} {M : MS} (hR : Rel X M) (x1 : Int32) : (f_X3_open X x1).1 = (f_X4_open M x1).1 ∧ Rel (f_X3_open X x1).2 (f_X4_open M x1).2 := by
  unfold f_X3_open f_X4_open f_X3_act
  rw [rel_has hR, acts_4]
  unfold f_X2_isIn
  rw [is01, ← hR.1.1.2.1]
  by_cases c1 : f_X4_isPerson M x1 = 0
  · simp only [if_pos c1]; exact ⟨trivial, hR⟩
  · simp only [if_neg c1]
    by_cases c2 : f_X4_isOf (M_isIn M) x1 = 0
    · rw [if_pos c2, if_pos c2]
      exact ⟨rfl, hR⟩
    · rw [if_neg c2, if_neg c2, ← hR.1.1.2.2]
      have ht := hR.tin
      have hi := q_cl (mi_r c1)
      have hb := hR.bnd hi
      have hp := hR.per c1
      by_cases c3 : M_tin M = 0
      · rw [if_pos c3, if_pos (by rw [c3]; decide)]
        exact ⟨rfl, hR⟩
      · rw [if_neg c3, if_neg (by rw [fa_le, show (0 : Int32).toInt = 0 from rfl]; intro h; apply c3; rw [fa_eq, show (0 : Int32).toInt = 0 from rfl]; omega)]
        have e1 : (M_parts M x1.toNatClampNeg + M_tin M).toInt = (M_parts M x1.toNatClampNeg).toInt + (M_tin M).toInt := fb_addI (by omega) (by omega)
        refine ⟨hR.1.1.2.2.symm, ?_⟩
        show Rel (X_now' X (T_tin' (T_parts' (X_now X) (upd (T_parts (X_now X)) x1.toNatClampNeg ((T_parts (X_now X) x1.toNatClampNeg) + T_tin (X_now X)))) (0 : Int32))) (M_tin' (M_parts' M (upd (M_parts M) x1.toNatClampNeg ((M_parts M x1.toNatClampNeg) + M_tin M))) (0 : Int32))
        rw [← hR.1.1.2.2, ← hp.2.1]
        refine hR.parts (fun i hi2 => ?_) (by decide) ?_
        · have h1 := hR.1.2.2.1 i hi2
          by_cases e : i = x1.toNatClampNeg
          · rw [e, pk_us, pk_us]; exact ⟨rfl, by rw [e1]; omega⟩
          · rw [pk_un e, pk_un e]; exact ⟨h1.2.1, h1.2.2.2.2.1⟩
        · have hs := hR.1.2.2.2
          rw [sumP_upd _ _ _ _ (by omega), e1, show (0 : Int32).toInt = 0 from rfl]
          omega
