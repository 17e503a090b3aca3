/-! sums of parts; people one by one -/
theorem sumP_out (P : Nat → Int32) (i : Nat) (v : Int32) : ∀ n : Nat, n ≤ i → sumP (upd P i v) n = sumP P n := by
  intro n
  induction n with
  | zero => intro _; rfl
  | succ n ih =>
    intro h
    show sumP (upd P i v) n + (upd P i v n).toInt = sumP P n + (P n).toInt
    rw [ih (by omega), pk_un (by omega)]
theorem sumP_upd (P : Nat → Int32) (i : Nat) (v : Int32) : ∀ n : Nat, i < n → sumP (upd P i v) n = sumP P n - (P i).toInt + v.toInt := by
  intro n
  induction n with
  | zero => intro h; omega
  | succ n ih =>
    intro h
    show sumP (upd P i v) n + (upd P i v n).toInt = sumP P n + (P n).toInt - (P i).toInt + v.toInt
    by_cases e : i = n
    · rw [← e, sumP_out P i v i (Nat.le_refl _), pk_us]; omega
    · rw [ih (by omega), pk_un (by omega)]; omega
theorem sumP_nn (P : Nat → Int32) : ∀ n : Nat, (∀ i, i < n → 0 ≤ (P i).toInt) → 0 ≤ sumP P n ∧ ∀ i, i < n → (P i).toInt ≤ sumP P n := by
  intro n
  induction n with
  | zero => intro _; exact ⟨Int.le_refl _, fun i h => absurd h (Nat.not_lt_zero _)⟩
  | succ n ih =>
    intro h
    obtain ⟨h1, h2⟩ := ih (fun i hi => h i (by omega))
    have h3 := h n (by omega)
    refine ⟨by show 0 ≤ sumP P n + (P n).toInt; omega, fun i hi => ?_⟩
    show (P i).toInt ≤ sumP P n + (P n).toInt
    by_cases e : i = n
    · rw [e]; omega
    · have := h2 i (by omega); omega
theorem Rel.pn {X : XS} {M : MS} (h : Rel X M) : ∀ i, i < (M_people M).toInt.toNat → 0 ≤ (M_parts M i).toInt := fun i hi => (h.1.2.2.1 i (by omega)).2.2.2.2.1
/-- bounds of what one has, and of the tin -/
theorem Rel.bnd {X : XS} {M : MS} (h : Rel X M) {i : Nat} (hi : (i : Int) < (M_people M).toInt) : 0 ≤ (M_parts M i).toInt ∧ (M_parts M i).toInt + (M_tin M).toInt ≤ 283 := by
  have h1 := (sumP_nn (M_parts M) _ h.pn).2 i (by omega)
  have h2 := h.1.2.2.2.2
  have h3 := h.1.2.2.2.1
  exact ⟨h.pn i (by omega), by omega⟩
theorem Rel.tin {X : XS} {M : MS} (h : Rel X M) : 0 ≤ (M_tin M).toInt ∧ (M_tin M).toInt ≤ 283 := by
  have h1 := (sumP_nn (M_parts M) _ h.pn).1
  have h2 := h.1.2.2.2.2
  exact ⟨h.1.2.2.2.1, by omega⟩
/-- a town's new parts and tin -/
theorem Rel.parts {X : XS} {M : MS} (h : Rel X M) {P Q : Nat → Int32} {t : Int32} (hp : ∀ i : Nat, (i : Int) < (M_people M).toInt → Q i = P i ∧ 0 ≤ (Q i).toInt) (ht : 0 ≤ t.toInt) (hs : t.toInt + sumP Q (M_people M).toInt.toNat ≤ 283) : Rel (X_now' X (T_tin' (T_parts' (X_now X) P) t)) (M_tin' (M_parts' M Q) t) := by
  refine ⟨⟨⟨h.1.1.1, h.1.1.2.1, rfl⟩, h.1.2.1, fun i hi => ?_, ht, hs⟩, h.2.1, h.2.2.1, h.2.2.2⟩
  have h1 := h.1.2.2.1 i hi
  have h2 := hp i hi
  exact ⟨h1.1, h2.1, h1.2.2.1, h1.2.2.2.1, h2.2, h1.2.2.2.2.2⟩
theorem isOf_bit (s p : Int32) : ((s >>> (p &&& 31)) &&& (1 : Int32)) = f_X4_isOf s p := by
  have h := pk_andE (s >>> (p &&& 31)) (m := 1) 1 (by decide)
  obtain ⟨j, hj, e⟩ := h
  unfold f_X4_isOf
  rw [e]
  rcases (show j = 0 ∨ j = 1 by omega) with rfl | rfl
  · rw [if_neg (by decide)]; rfl
  · rw [if_pos (by decide)]; rfl
theorem isOf_ite (s p : Int32) : (if f_X4_isOf s p = 0 then (0 : Int32) else (1 : Int32)) = f_X4_isOf s p := by
  unfold f_X4_isOf
  by_cases c : ((s >>> (p &&& 31)) &&& (1 : Int32)) = (1 : Int32)
  · rw [if_pos c]; rfl
  · rw [if_neg c]; rfl
/-- what one says -/
theorem says_eq {X : XS} {M : MS} {i n : Int32} (h : RelP (X_now X) M i.toNatClampNeg) (hn : 0 ≤ n.toInt) : f_X3_says (T_kind (X_now X) i.toNatClampNeg) n (T_thick (X_now X) i.toNatClampNeg) = f_X4_saysBy M i n := by
  unfold f_X3_says f_X4_saysBy
  rw [← h.1, ← h.2.2.1]
  have ht := h.2.2.2.2.2
  have hk := h.2.2.2.1
  rw [if_neg (by rw [fa_le, show (0 : Int32).toInt = 0 from rfl]; omega)]
  generalize M_thick M i.toNatClampNeg = t at *
  have hq : 0 ≤ (n / t).toInt ∧ (n / t).toInt < 2147483648 := by
    refine ⟨?_, (fb_rng _).2⟩
    obtain ⟨a, ha, e1⟩ := nI_of (x := n) (by rw [fa_lt, show (0 : Int32).toInt = 0 from rfl]; omega)
    obtain ⟨d, hd, e2⟩ := nI_of (x := t) (by rw [fa_lt, show (0 : Int32).toInt = 0 from rfl]; omega)
    rw [e1, e2]
    rw [e2, nI_toInt hd] at ht
    rw [pk_div ha (by omega) hd, nI_toInt (Nat.lt_of_le_of_lt (Nat.div_le_self _ _) ha)]
    exact Int.natCast_nonneg _
  generalize n / t = q at *
  rcases kind3 hk with e | e | e
  · rw [e, if_neg (by decide), if_neg (by decide), if_neg (by decide), if_pos rfl]
  · rw [e, if_pos rfl, if_pos rfl]
    by_cases c : q ≤ 0
    · rw [if_pos c]
      rw [fa_le, show (0 : Int32).toInt = 0 from rfl] at c
      have e0 : q = 0 := by rw [fa_eq, show (0 : Int32).toInt = 0 from rfl]; omega
      rw [e0, if_pos (by decide)]
    · rw [if_neg c]
      rw [fa_le, show (0 : Int32).toInt = 0 from rfl] at c
      rw [if_neg]
      rw [fa_lt, fb_subI (by rw [show (1 : Int32).toInt = 1 from rfl]; omega) (by rw [show (1 : Int32).toInt = 1 from rfl]; omega), show (1 : Int32).toInt = 1 from rfl, show (0 : Int32).toInt = 0 from rfl]
      omega
  · rw [e, if_neg (by decide), if_pos rfl, if_neg (by decide), if_neg (by decide)]
theorem rel_ofPerson {X : XS} {M : MS} (hR : Rel X M) (x1 x2 : Int32) : (f_X3_ofPerson X x1 x2) = (f_X4_ofPerson M x1 x2) := by
  unfold f_X3_ofPerson f_X4_ofPerson f_X2_isIn f_X2_saysNow
  rw [rel_has hR]
  by_cases c1 : f_X4_isPerson M x1 = 0
  · rw [if_pos c1, if_pos c1]
  · rw [if_neg c1, if_neg c1]
    have hp := hR.per c1
    rw [mem_eq, ← hR.1.1.2.1, isOf_ite, isOf_bit, ← hp.2.1, says_eq hp hp.2.2.2.2.1, hp.1, hp.2.2.1]
theorem rel_tune {X : XS} {M : MS} (hR : Rel X M) (x1 x2 : Int32) : (f_X3_tune X x1 x2).1 = (f_X4_tune M x1 x2).1 ∧ Rel (f_X3_tune X x1 x2).2 (f_X4_tune M x1 x2).2 := by
  unfold f_X3_tune f_X4_tune
  rw [rel_has hR, wi_ite, le_ite]
  by_cases c1 : f_X4_isPerson M x1 = 0
  · simp only [if_pos c1]; exact ⟨trivial, hR⟩
  · simp only [if_neg c1]
    by_cases c2 : x2 < (1 : Int32)
    · simp only [if_pos c2]; exact ⟨trivial, hR⟩
    · simp only [if_neg c2]
      by_cases c3 : (9 : Int32) < x2
      · simp only [if_pos c3]; exact ⟨trivial, hR⟩
      · simp only [if_neg c3]
        refine ⟨(hR.per c1).2.2.1.symm, ⟨hR.1.1, hR.1.2.1, fun i hi => ?_, hR.1.2.2.2⟩, hR.2.1, hR.2.2.1, hR.2.2.2⟩
        have h1 := hR.1.2.2.1 i hi
        refine ⟨h1.1, h1.2.1, ?_, h1.2.2.2.1, h1.2.2.2.2.1, ?_⟩
        · show upd (M_thick M) x1.toNatClampNeg x2 i = upd (T_thick (X_now X)) x1.toNatClampNeg x2 i
          by_cases e : i = x1.toNatClampNeg
          · rw [e, pk_us, pk_us]
          · rw [pk_un e, pk_un e]; exact h1.2.2.1
        · show 1 ≤ (upd (M_thick M) x1.toNatClampNeg x2 i).toInt ∧ (upd (M_thick M) x1.toNatClampNeg x2 i).toInt ≤ 9
          by_cases e : i = x1.toNatClampNeg
          · rw [e, pk_us]
            rw [fa_lt, show (1 : Int32).toInt = 1 from rfl] at c2
            rw [fa_lt, show (9 : Int32).toInt = 9 from rfl] at c3
            omega
          · rw [pk_un e]; exact h1.2.2.2.2.2
theorem rel_pack {X : XS} {M : MS} (hR : Rel X M) (x1 x2 : Int32) : (f_X3_pack X x1 x2).1 = (f_X4_pack M x1 x2).1 ∧ Rel (f_X3_pack X x1 x2).2 (f_X4_pack M x1 x2).2 := by
  unfold f_X3_pack f_X4_pack
  rw [rel_has hR, wi_ite, le_ite x2 (99 : Int32)]
  by_cases c1 : f_X4_isPerson M x1 = 0
  · simp only [if_pos c1]; exact ⟨trivial, hR⟩
  · simp only [if_neg c1]
    have hi := q_cl (mi_r c1)
    have hb := hR.bnd hi
    have hs := hR.1.2.2.2
    have hp := hR.per c1
    rw [← hR.1.1.2.2, ← hp.2.1]
    by_cases c2 : x2 < (1 : Int32)
    · simp only [if_pos c2]; exact ⟨trivial, hR⟩
    · simp only [if_neg c2]
      by_cases c3 : (99 : Int32) < x2
      · simp only [if_pos c3]; exact ⟨trivial, hR⟩
      · simp only [if_neg c3]
        by_cases c4 : x2 ≤ M_parts M x1.toNatClampNeg
        · simp only [if_pos c4]
          rw [fa_lt, show (1 : Int32).toInt = 1 from rfl] at c2
          rw [fa_lt, show (99 : Int32).toInt = 99 from rfl] at c3
          rw [fa_le] at c4
          have e1 : (M_parts M x1.toNatClampNeg - x2).toInt = (M_parts M x1.toNatClampNeg).toInt - x2.toInt := fb_subI (by omega) (by omega)
          have e2 : (M_tin M + x2).toInt = (M_tin M).toInt + x2.toInt := fb_addI (by omega) (by omega)
          refine ⟨trivial, hR.parts (fun i hi2 => ?_) (by rw [e2]; omega) ?_⟩
          · have h1 := hR.1.2.2.1 i hi2
            by_cases e : i = x1.toNatClampNeg
            · rw [e, pk_us, pk_us]; exact ⟨rfl, by rw [e1]; omega⟩
            · rw [pk_un e, pk_un e]; exact ⟨h1.2.1, h1.2.2.2.2.1⟩
          · rw [sumP_upd _ _ _ _ (by omega), e1, e2]
            omega
        · simp only [if_neg c4]; exact ⟨trivial, hR⟩
