/-! all the sets: asked, were, odds, worth -/
def cB (s p : Int32) : Int32 := f_J6_bitCount_0f7a4 (s &&& (((1 : Int32) <<< (p &&& 31)) - (1 : Int32)))
theorem t_cb : ∀ (a : Fin 64) (j : Fin 6), cB (nI a.val) (nI j.val + (1 : Int32)) = cB (nI a.val) (nI j.val) + (if f_X4_isOf (nI a.val) (nI j.val) = 0 then (0 : Int32) else (1 : Int32)) := by decide +kernel
theorem t_cb0 : ∀ a : Fin 64, cB (nI a.val) (0 : Int32) = 0 := by decide +kernel
theorem so_cb {s n p : Int32} (h : so s n) (hp : 0 ≤ p.toInt ∧ p.toInt < 6) : cB s (p + (1 : Int32)) = cB s p + (if f_X4_isOf s p = 0 then (0 : Int32) else (1 : Int32)) := by
  obtain ⟨a, ha, rfl⟩ := so_64 h
  obtain ⟨j, h1, rfl, h2⟩ := nn_I hp.1
  exact t_cb ⟨a, ha⟩ ⟨j, by omega⟩
theorem so_cb0 {s n : Int32} (h : so s n) : cB s (0 : Int32) = 0 := by
  obtain ⟨a, ha, rfl⟩ := so_64 h
  exact t_cb0 ⟨a, ha⟩
theorem sr_L {M : MS} {s p : Int32} (P S : Int32) (hn : (M_people M).toInt ≤ 6) (hs : so s (M_people M)) (hp : 0 ≤ p.toInt ∧ p.toInt < (M_people M).toInt) : ∀ (k : Nat) (x : Int32), 0 ≤ x.toInt → x.toInt ≤ p.toInt → p.toInt - x.toInt < k → fL_X4_shareOf_19 M s (0 : Int32) p P S k (cB s x) x = (if (P - P / S * S) ≤ cB s p then (P / S) + (0 : Int32) else (P / S) + (1 : Int32)) := by
  intro k
  induction k with
  | zero => intro x h0 h1 h2; exact absurd h2 (by omega)
  | succ k ih =>
    intro x h0 h1 h2
    rw [fL_X4_shareOf_19]
    by_cases c : x = p
    · rw [if_pos c, c]
    · rw [if_neg c]
      have c' : x.toInt ≠ p.toInt := fun q => c ((fa_eq _ _).mpr q)
      have es : (x + (1 : Int32)).toInt = x.toInt + 1 := by rw [fb_addI] <;> rw [i1] <;> omega
      have hne : ¬ x + (1 : Int32) = M_people M := by intro q; rw [fa_eq] at q; omega
      have hc := so_cb hs (p := x) ⟨h0, by omega⟩
      by_cases c2 : f_X4_isOf s x = 0
      · rw [if_pos c2, if_neg hne]
        rw [if_pos c2] at hc
        rw [← hc]
        exact ih _ (by omega) (by omega) (by omega)
      · rw [if_neg c2, if_neg hne]
        rw [if_neg c2] at hc
        rw [← hc]
        exact ih _ (by omega) (by omega) (by omega)
theorem sr_0 {M : MS} {s p : Int32} (hn : (M_people M).toInt ≤ 6) (hs : so s (M_people M)) (hp : 0 ≤ p.toInt ∧ p.toInt < (M_people M).toInt) : f_X4_shareOf M s (0 : Int32) p = (if (f_X4_partsOf M s - f_X4_partsOf M s / f_X4_size s * f_X4_size s) ≤ cB s p then (f_X4_partsOf M s / f_X4_size s) + (0 : Int32) else (f_X4_partsOf M s / f_X4_size s) + (1 : Int32)) := by
  have h := sr_L (f_X4_partsOf M s) (f_X4_size s) hn hs hp 7 (0 : Int32) (by decide) (by rw [i0]; omega) (by rw [i0]; omega)
  rw [so_cb0 hs] at h
  exact h
theorem pd_eq {X : XS} {M : MS} (hR : Rel X M) {s p : Int32} (hs : so s (M_people M)) (hp : 0 ≤ p.toInt ∧ p.toInt < (M_people M).toInt) (hm : ¬ f_X4_isOf s p = 0) : f_X2_partsBehindDay (X_now X) s p = f_X4_shareOf M s (0 : Int32) p := by
  rw [sr_0 hR.mn hs hp]
  unfold f_X2_partsBehindDay
  rw [so_bs hs, po_eq hR, if_neg (so_sz hs (mem_ne hs (q_in hR.mn hp) hm))]
  rfl
theorem al_eq {X : XS} {M : MS} (hR : Rel X M) : f_X2_allSets (X_now X) = (1 : Int32) <<< ((M_people M) &&& 31) := by
  unfold f_X2_allSets
  rw [hR.1.1.1]
theorem t_and : ∀ (b : Fin 7) (a : Fin 64), a.val < 2 ^ b.val → (((1 : Int32) <<< (nI b.val &&& 31)) - (1 : Int32)) &&& nI a.val = nI a.val := by decide +kernel
theorem so_and {s n : Int32} (h : so s n) : (((1 : Int32) <<< (n &&& 31)) - (1 : Int32)) &&& s = s := by
  obtain ⟨a, b, hb, hab, rfl, rfl⟩ := so_nI h
  exact t_and ⟨b, by omega⟩ ⟨a, pw6 hb hab⟩ hab
theorem so_lt {s n : Int32} (h : so s n) : 0 ≤ s.toInt ∧ s.toInt < 64 := by
  obtain ⟨a, ha, rfl⟩ := so_64 h
  rw [nI_toInt (by omega)]
  omega
theorem n9_ge {s : Int32} (h : 0 ≤ s.toInt) : ¬ s = (-9 : Int32) := fun e => by rw [e] at h; exact absurd h (by decide)
theorem we_L {X : XS} {M : MS} (hR : Rel X M) {p : Int32} (hp : 0 ≤ p.toInt ∧ p.toInt < (M_people M).toInt) (v x3 : Int32) : ∀ (k : Nat) (a b c d s : Int32), 0 ≤ s.toInt → (0 ≤ a.toInt ∧ a.toInt ≤ s.toInt) → ((a = 0 ∧ b = (-9 : Int32) ∧ c = (-9 : Int32) ∧ d = ((1 : Int32) <<< ((M_people M) &&& 31)) - (1 : Int32)) ∨ (¬ a = 0 ∧ ¬ b = (-9 : Int32) ∧ c = d)) → fL_X3_were_50 X p v x3 k a b c s = fL_X4_were_53 M p v x3 k a b d s := by
  intro k
  induction k with
  | zero => intros; rfl
  | succ k ih =>
    intro a b c d s h0 h1 h2
    rw [fL_X3_were_50, fL_X4_were_53, al_eq hR, mem_eq]
    by_cases g : (1 : Int32) <<< ((M_people M) &&& 31) ≤ s
    · rw [if_pos g, if_pos g]
      by_cases c1 : x3 = 0
      · rw [if_pos c1, if_pos c1]
      · rw [if_neg c1, if_neg c1]
        by_cases c2 : x3 = (1 : Int32)
        · rw [if_pos c2, if_pos c2]
        · rw [if_neg c2, if_neg c2]
          rcases h2 with ⟨e1, e2, e3, e4⟩ | ⟨e1, e2, e3⟩
          · rw [if_pos e1, e2, e3]
          · rw [if_neg e1, e3]
    · rw [if_neg g, if_neg g]
      have hs := bnd_so hR.so.1 h0 g
      have hl := so_lt hs
      have es : (s + (1 : Int32)).toInt = s.toInt + 1 := by rw [fb_addI] <;> rw [i1] <;> omega
      by_cases c1 : f_X4_isOf s p = 0
      · rw [if_pos c1, if_pos c1]
        exact ih _ _ _ _ _ (by omega) (by omega) h2
      · rw [if_neg c1, if_neg c1, pd_eq hR hs hp c1]
        by_cases c2 : f_X4_shareOf M s (0 : Int32) p = v
        · rw [if_pos c2, if_pos c2]
          have ea : (a + (1 : Int32)).toInt = a.toInt + 1 := by rw [fb_addI] <;> rw [i1] <;> omega
          have hne : ¬ a + (1 : Int32) = 0 := by intro q; rw [fa_eq, i0] at q; omega
          rcases h2 with ⟨e1, e2, e3, e4⟩ | ⟨e1, e2, e3⟩
          · rw [if_pos e1, if_pos e1, if_pos e2, e4, so_and hs]
            exact ih _ _ _ _ _ (by omega) (by omega) (Or.inr ⟨hne, n9_ge h0, rfl⟩)
          · rw [if_neg e1, if_neg e1, if_neg e2, e3]
            exact ih _ _ _ _ _ (by omega) (by omega) (Or.inr ⟨hne, e2, rfl⟩)
        · rw [if_neg c2, if_neg c2]
          exact ih _ _ _ _ _ (by omega) (by omega) h2
theorem rel_were {X : XS} {M : MS} (hR : Rel X M) (x1 x2 x3 : Int32) : (f_X3_were X x1 x2 x3) = (f_X4_were M x1 x2 x3) := by
  unfold f_X3_were f_X4_were
  rw [rel_has hR, wi_ite, wi_ite, le_ite]
  by_cases c : f_X4_isPerson M x1 = 0
  · rw [if_pos c, if_pos c]
  · rw [if_neg c, if_neg c, al_eq hR, we_L hR (mi_r c) x2 x3 _ _ _ _ (((1 : Int32) <<< ((M_people M) &&& 31)) - (1 : Int32)) _ (by decide) ⟨by decide, by decide⟩ (Or.inl ⟨rfl, rfl, rfl, rfl⟩)]
theorem t_sh2 : ∀ b : Fin 7, ((1 : Int32) <<< (nI b.val &&& 31)).toInt64 = (1 : Int64) <<< ((nI b.val).toInt64 &&& 63) := by decide +kernel
theorem sh_64 {n : Int32} (h : 0 ≤ n.toInt ∧ n.toInt ≤ 6) : ((1 : Int32) <<< (n &&& 31)).toInt64 = (1 : Int64) <<< (n.toInt64 &&& 63) := by
  obtain ⟨b, h1, rfl, h2⟩ := nn_I h.1
  exact t_sh2 ⟨b, by omega⟩
theorem pw_b {n : Int32} (h : 0 ≤ n.toInt ∧ n.toInt ≤ 6) : 0 < ((1 : Int32) <<< (n &&& 31)).toInt ∧ ((1 : Int32) <<< (n &&& 31)).toInt < 1024 := by
  rw [bnd_toInt h]
  obtain ⟨b, h1, rfl, h2⟩ := nn_I h.1
  rw [← h2, Int.toNat_natCast]
  have h3 : b ≤ 6 := by omega
  have h4 : 2 ^ b ≤ 2 ^ 6 := Nat.pow_le_pow_right (by decide) h3
  have h5 : 0 < 2 ^ b := Nat.pow_pos (by decide)
  have h6 : ((2 ^ b : Nat) : Int) = (2 : Int) ^ b := by rw [Int.natCast_pow]; rfl
  omega
theorem sr_nn {X : XS} {M : MS} (hR : Rel X M) {s p : Int32} (hs : so s (M_people M)) (hp : 0 ≤ p.toInt ∧ p.toInt < (M_people M).toInt) (hm : ¬ f_X4_isOf s p = 0) : 0 ≤ (f_X4_shareOf M s (0 : Int32) p).toInt := by
  rw [sr_0 hR.mn hs hp]
  have hb := po_bnd hR s
  obtain ⟨a, a1, e1, a2⟩ := nn_I hb.1
  have hz := so_szp hs (mem_ne hs (q_in hR.mn hp) hm)
  obtain ⟨d, d1, e2, d2⟩ := nn_I (x := f_X4_size s) (by omega)
  have hq : a / d ≤ a := Nat.div_le_self _ _
  rw [e1, e2, pk_div a1 (by omega) d1]
  split
  · rw [Int32.add_zero, nI_toInt (by omega)]; exact Int.natCast_nonneg _
  · rw [nI_1, nI_toInt (by omega)]; exact Int.natCast_nonneg _
theorem od_L {X : XS} {M : MS} (hR : Rel X M) {p : Int32} (hp : 0 ≤ p.toInt ∧ p.toInt < (M_people M).toInt) (v x3 : Int32) : ∀ (k : Nat) (a s : Int32), 0 ≤ s.toInt → (0 ≤ a.toInt ∧ a.toInt ≤ s.toInt) → fL_X3_odds_39 X p v x3 k a s = fL_X4_odds_38 M p v x3 k a s := by
  intro k
  induction k with
  | zero => intros; rfl
  | succ k ih =>
    intro a s h0 h1
    rw [fL_X3_odds_39, fL_X4_odds_38, al_eq hR, mem_eq]
    by_cases g : (1 : Int32) <<< ((M_people M) &&& 31) ≤ s
    · have hb := pw_b hR.so.1
      rw [if_pos g, if_pos g, gt_32 h1.1 hb.1 hb.2, sh_64 hR.so.1]
    · rw [if_neg g, if_neg g]
      have hs := bnd_so hR.so.1 h0 g
      have hl := so_lt hs
      have es : (s + (1 : Int32)).toInt = s.toInt + 1 := by rw [fb_addI] <;> rw [i1] <;> omega
      have ea : (a + (1 : Int32)).toInt = a.toInt + 1 := by rw [fb_addI] <;> rw [i1] <;> omega
      rw [Int32.add_zero]
      by_cases c1 : f_X4_isOf s p = 0
      · rw [if_pos c1, if_pos c1]
        exact ih _ _ (by omega) (by omega)
      · rw [if_neg c1, if_neg c1, pd_eq hR hs hp c1, says_eq (i := p) (hR.1.2.2.1 _ (q_cl hp)) (sr_nn hR hs hp c1), ih _ _ (by omega) (by omega), ih _ _ (by omega) (by omega)]
theorem rel_odds {X : XS} {M : MS} (hR : Rel X M) (x1 x2 x3 : Int32) : (f_X3_odds X x1 x2 x3) = (f_X4_odds M x1 x2 x3) := by
  unfold f_X3_odds f_X4_odds
  rw [rel_has hR, hs_ite]
  by_cases c : f_X4_isPerson M x1 = 0
  · rw [if_pos c, if_pos c]
  · rw [if_neg c, if_neg c, al_eq hR, od_L hR (mi_r c) x2 x3 _ _ _ (by decide) ⟨by decide, by decide⟩, ← wi_ite]
theorem ask_L {X : XS} {M : MS} (hR : Rel X M) {p : Int32} (hp : 0 ≤ p.toInt ∧ p.toInt < (M_people M).toInt) (v x3 o : Int32) : ∀ (k : Nat) (b z y s : Int32), 0 ≤ s.toInt → (((1 : Int32) <<< ((M_people M) &&& 31)).toInt - s.toInt).toNat < k → (b = (-9 : Int32) ∨ (z = f_X4_size b ∧ y = (M_parts M p.toNatClampNeg) + (f_X4_partsOf M b))) → fL_X4_asked_55 M p v x3 o k b y s = (if x3 = 0 then fL_X3_bestAsked_27 X p v o k b z y s else (if fL_X3_bestAsked_27 X p v o k b z y s = (-9 : Int32) then fL_X3_bestAsked_27 X p v o k b z y s else (M_parts M p.toNatClampNeg) + (f_X4_partsOf M (fL_X3_bestAsked_27 X p v o k b z y s)))) := by
  intro k
  induction k with
  | zero => intro b z y s h0 h1; exact absurd h1 (Nat.not_lt_zero _)
  | succ k ih =>
    intro b z y s h0 h1 h2
    have ep := (hR.1.2.2.1 _ (q_cl hp)).2.1
    rw [fL_X3_bestAsked_27, fL_X4_asked_55, al_eq hR, po_eq hR, ← ep]
    by_cases g : (1 : Int32) <<< ((M_people M) &&& 31) ≤ s
    · simp only [if_pos g]
      by_cases c1 : x3 = 0
      · rw [if_pos c1, if_pos c1]
      · rw [if_neg c1, if_neg c1]
        by_cases c2 : b = (-9 : Int32)
        · rw [if_pos c2, if_pos c2]
        · rw [if_neg c2, if_neg c2]
          rcases h2 with e | ⟨-, e⟩
          · exact absurd e c2
          · exact e
    · simp only [if_neg g]
      have hs := bnd_so hR.so.1 h0 g
      have hl := so_lt hs
      have es : (s + (1 : Int32)).toInt = s.toInt + 1 := by rw [fb_addI] <;> rw [i1] <;> omega
      rw [fa_le] at g
      have skip := ih b z y (s + (1 : Int32)) (by omega) (by omega) h2
      have tk := ih s (f_X4_size s) ((M_parts M p.toNatClampNeg) + (f_X4_partsOf M s)) (s + (1 : Int32)) (by omega) (by omega) (Or.inr ⟨rfl, rfl⟩)
      rw [so_bs hs]
      by_cases c1 : (s &&& (o ^^^ (-1 : Int32))) = 0
      · simp only [if_pos c1]
        by_cases c2 : ((M_parts M p.toNatClampNeg) + (f_X4_partsOf M s)) < v
        · simp only [if_pos c2, ite_self]; exact skip
        · simp only [if_neg c2]
          by_cases c3 : b = (-9 : Int32)
          · simp only [if_pos c3]; exact tk
          · simp only [if_neg c3]
            rcases h2 with e | ⟨e, e'⟩
            · exact absurd e c3
            · rw [e] at skip ⊢
              by_cases c4 : f_X4_size s < f_X4_size b
              · simp only [if_pos c4]; exact tk
              · simp only [if_neg c4]
                by_cases c5 : f_X4_size s = f_X4_size b
                · simp only [if_pos c5]
                  by_cases c6 : y ≤ ((M_parts M p.toNatClampNeg) + (f_X4_partsOf M s))
                  · simp only [if_pos c6]; exact skip
                  · simp only [if_neg c6]; exact tk
                · simp only [if_neg c5]; exact skip
      · simp only [if_neg c1, ite_self]; exact skip
theorem rel_asked {X : XS} {M : MS} (hR : Rel X M) (x1 x2 x3 : Int32) : (f_X3_asked X x1 x2 x3) = (f_X4_asked M x1 x2 x3) := by
  unfold f_X3_asked f_X4_asked f_X3_bestAsked
  rw [rel_has hR, wi_ite, wi_ite, le_ite]
  by_cases c : f_X4_isPerson M x1 = 0
  · rw [if_pos c, if_pos c]
  · have hb := (pw_b hR.so.1).1
    rw [if_neg c, if_neg c, al_eq hR, ← hR.1.1.2.1, po_eq hR, ← (hR.per c).2.1, ask_L hR (mi_r c) x2 x3 _ _ _ (0 : Int32) _ _ (by decide) (by rw [i0]; omega) (Or.inl rfl)]
    by_cases c3 : x3 = 0
    · simp only [if_pos c3]
      rw [ite_self]
    · simp only [if_neg c3]
