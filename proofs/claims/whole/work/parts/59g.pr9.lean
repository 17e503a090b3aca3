/-! least terms -/
theorem ge_0 (x0 x1 x2 t : Int32) {k a : Nat} (ha : a < 2 ^ 31) (hk : 0 < k) (h : 0 < a) : fL_X3_shareOf_8 x0 x1 x2 k (nI a) (nI 0) t = (if x2 = 0 then (x0 / nI a).toInt64 else (x1 / nI a).toInt64) := by
  cases k with
  | zero => exact absurd hk (Nat.lt_irrefl _)
  | succ k =>
    rw [fL_X3_shareOf_8, if_pos (show nI 0 = 0 from rfl), if_pos (show (1 : Int32) ≤ nI a by rw [fa_le, i1, nI_toInt ha]; omega)]
    exact ite_self _
theorem nz_I {b : Nat} (hb : b < 2 ^ 31) (h : ¬ b = 0) : ¬ nI b = 0 := by
  intro e
  have h1 : (nI b).toInt = 0 := by rw [e]; rfl
  rw [nI_toInt hb] at h1
  omega
theorem ge_1 (x0 x1 x2 : Int32) {k a b t : Nat} (ha : a < 2 ^ 31) (hb : b < 2 ^ 31) (h : ¬ b = 0) (ht : t < 64) : fL_X3_shareOf_8 x0 x1 x2 (k + 1) (nI a) (nI b) (nI t) = fL_X3_shareOf_8 x0 x1 x2 k (nI b) (nI (a % b)) (nI (t + 1)) := by
  rw [fL_X3_shareOf_8, if_neg (show ¬ (64 : Int32) ≤ nI t by rw [fa_le, nI_toInt (by omega), show (64 : Int32).toInt = 64 from rfl]; omega), if_neg (nz_I hb h), pk_rem ha (by omega) hb, nI_1]
theorem ge_X (x0 x1 x2 : Int32) : ∀ (n k a b t : Nat), a < 2 ^ 31 → b < 2 ^ 31 → b < 2 ^ n → t + 2 * n ≤ 64 → 2 * n < k → 0 < Nat.gcd a b → fL_X3_shareOf_8 x0 x1 x2 k (nI a) (nI b) (nI t) = (if x2 = 0 then (x0 / nI (Nat.gcd a b)).toInt64 else (x1 / nI (Nat.gcd a b)).toInt64) := by
  intro n
  induction n with
  | zero =>
    intro k a b t ha hb h1 h2 h3 h4
    have e : b = 0 := by rw [Nat.pow_zero] at h1; omega
    subst e
    rw [Nat.gcd_zero_right] at h4 ⊢
    exact ge_0 _ _ _ _ ha (by omega) h4
  | succ n ih =>
    intro k a b t ha hb h1 h2 h3 h4
    by_cases e : b = 0
    · subst e
      rw [Nat.gcd_zero_right] at h4 ⊢
      exact ge_0 _ _ _ _ ha (by omega) h4
    · have e1 : Nat.gcd a b = Nat.gcd b (a % b) := by rw [Nat.gcd_comm a b, Nat.gcd_rec b a, Nat.gcd_comm]
      obtain ⟨k, rfl⟩ : ∃ j, k = j + 1 := ⟨k - 1, by omega⟩
      rw [ge_1 _ _ _ ha hb e (by omega), e1]
      have hr : a % b < b := Nat.mod_lt _ (by omega)
      by_cases e2 : a % b = 0
      · rw [e2, Nat.gcd_zero_right]
        exact ge_0 _ _ _ _ hb (by omega) (by omega)
      · have e3 : Nat.gcd b (a % b) = Nat.gcd (a % b) (b % (a % b)) := by rw [Nat.gcd_comm b (a % b), Nat.gcd_rec (a % b) b, Nat.gcd_comm]
        obtain ⟨k, rfl⟩ : ∃ j, k = j + 1 := ⟨k - 1, by omega⟩
        rw [ge_1 _ _ _ hb (by omega) e2 (by omega), e3]
        have hr2 : b % (a % b) < a % b := Nat.mod_lt _ (by omega)
        have hr3 : b % (a % b) ≤ b - a % b := by
          rw [Nat.mod_eq_sub_mod (by omega)]
          exact Nat.mod_le _ _
        refine ih _ _ _ _ (by omega) (by omega) ?_ (by omega) (by omega) ?_
        · rw [Nat.pow_succ] at h1; omega
        · rw [← e3, ← e1]; exact h4
theorem ge_M (x0 x2 : Int64) (x4 : Int32) : ∀ (k a b : Nat), a < 2 ^ 63 → b < 2 ^ 63 → b < k → fL_X4_inLeastTerms_6 x0 x2 x4 k (lN a) (lN b) = (if x4 = 0 then x0 / lN (Nat.gcd a b) else x2 / lN (Nat.gcd a b)) := by
  intro k
  induction k with
  | zero => intro a b _ _ h; exact absurd h (Nat.not_lt_zero _)
  | succ k ih =>
    intro a b ha hb h
    rw [fL_X4_inLeastTerms_6]
    by_cases e : b = 0
    · subst e
      rw [if_pos (show lg_cmp (lN 0) (0 : Int64) = 0 by decide), Nat.gcd_zero_right]
    · have hne : ¬ lg_cmp (lN b) (0 : Int64) = 0 := by
        intro c
        have h1 := lc_eq c
        have h2 : (lN b).toInt = 0 := by rw [h1]; rfl
        rw [pk_lT hb] at h2
        omega
      have hr : a % b < b := Nat.mod_lt _ (by omega)
      rw [if_neg hne, pk_lRem ha (by omega) hb, ih _ _ hb (by omega) (by omega)]
      have e1 : Nat.gcd a b = Nat.gcd b (a % b) := by rw [Nat.gcd_comm a b, Nat.gcd_rec b a, Nat.gcd_comm]
      rw [e1]
theorem nI_64 {a : Nat} (h : a < 2 ^ 31) : (nI a).toInt64 = lN a := by
  rw [fa_eq64, Int32.toInt_toInt64, nI_toInt h, pk_lT (by omega)]
theorem dv_64 {a g : Nat} (h : a < 2 ^ 31) (h0 : 0 < g) (hg : g < 2 ^ 31) : (nI a / nI g).toInt64 = lN a / lN g := by
  rw [pk_div h h0 hg, pk_lDiv (by omega) h0 (by omega), nI_64 (Nat.lt_of_le_of_lt (Nat.div_le_self _ _) h)]
/-- the class's and the reference's least terms -/
theorem gt_eq {a d : Nat} (ha : a < 2 ^ 31) (h0 : 0 < d) (hd : d < 1024) (x : Int32) : f_X3_shareOf (nI a) (nI d) x = f_X4_inLeastTerms (lN a) (lN d) x := by
  have hg : 0 < Nat.gcd a d := Nat.gcd_pos_of_pos_right _ h0
  have hg2 : Nat.gcd a d ≤ d := Nat.le_of_dvd h0 (Nat.gcd_dvd_right _ _)
  have eM : f_X4_inLeastTerms (lN a) (lN d) x = (if x = 0 then lN a / lN (Nat.gcd a d) else lN d / lN (Nat.gcd a d)) := by
    unfold f_X4_inLeastTerms
    exact ge_M _ _ _ _ _ _ (by omega) (by omega) (by rw [pk_lT (by omega)]; omega)
  have eX : f_X3_shareOf (nI a) (nI d) x = (if x = 0 then (nI a / nI (Nat.gcd a d)).toInt64 else (nI d / nI (Nat.gcd a d)).toInt64) := by
    unfold f_X3_shareOf
    by_cases e : a = 0
    · subst e
      rw [Nat.gcd_zero_left]
      exact ge_0 _ _ _ _ (by omega) (by omega) h0
    · have e1 : Nat.gcd a d = Nat.gcd a (d % a) := by rw [Nat.gcd_rec a d, Nat.gcd_comm]
      have h1 : d % a ≤ d := Nat.mod_le _ _
      rw [show (0 : Int32) = nI 0 from rfl, ge_1 _ _ _ (by omega) ha e (by omega), e1]
      exact ge_X _ _ _ 10 _ _ _ _ ha (by omega) (by omega) (by omega) (by omega) (by rw [← e1]; exact hg)
  rw [eX, eM, dv_64 ha hg (by omega), dv_64 (show d < 2 ^ 31 by omega) hg (by omega)]
theorem hs_ite {α : Type} (x : Int32) (A B : α) : (if f_X3_isHalfOfShare x = 0 then A else B) = (if f_X4_within x (0 : Int32) (1 : Int32) = 0 then A else B) := by
  rw [wi_ite]
  unfold f_X3_isHalfOfShare
  by_cases c0 : x = 0
  · rw [if_pos c0, c0, if_neg (by decide), if_neg (by decide), if_neg (by decide)]
  · rw [if_neg c0]
    by_cases c1 : x = (1 : Int32)
    · rw [if_pos c1, c1, if_neg (by decide), if_neg (by decide), if_neg (by decide)]
    · rw [if_neg c1, if_pos rfl]
      rw [fa_eq, i0] at c0
      rw [fa_eq, i1] at c1
      by_cases c2 : x < 0
      · rw [if_pos c2]
      · rw [if_neg c2]
        rw [fa_lt, i0] at c2
        rw [if_pos (by rw [fa_lt, i1]; omega)]
theorem nn_I {x : Int32} (h : 0 ≤ x.toInt) : ∃ a : Nat, a < 2 ^ 31 ∧ x = nI a ∧ (a : Int) = x.toInt := by
  obtain ⟨a, h1, h2⟩ := nI_of (x := x) (by rw [fa_lt, i0]; omega)
  exact ⟨a, h1, h2, by rw [h2, nI_toInt h1]⟩
theorem gt_32 {x y : Int32} (hx : 0 ≤ x.toInt) (hy : 0 < y.toInt) (hy2 : y.toInt < 1024) (v : Int32) : f_X3_shareOf x y v = f_X4_inLeastTerms x.toInt64 y.toInt64 v := by
  obtain ⟨a, a1, rfl, a2⟩ := nn_I hx
  obtain ⟨d, d1, rfl, d2⟩ := nn_I (x := y) (by omega)
  rw [nI_64 a1, nI_64 d1]
  exact gt_eq a1 (by omega) (by omega) v
theorem rel_mean {X : XS} {M : MS} (hR : Rel X M) (x1 : Int32) : (f_X3_mean X x1) = (f_X4_mean M x1) := by
  unfold f_X3_mean f_X4_mean f_X2_heads
  rw [hs_ite, po_eq hR, ← hR.1.1.2.1, so_bs hR.so]
  by_cases c : M_isIn M = 0
  · rw [if_pos c, if_pos c]
  · have h1 := so_szp hR.so c
    have h2 := so_sz6 hR.so
    rw [if_neg c, if_neg c, gt_32 (po_bnd hR _).1 h1 (by omega)]
