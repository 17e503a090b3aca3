theorem Rel.parts2 {X : XS} {M : MS} (h : Rel X M) {P Q : Nat → Int32} (hp : ∀ i : Nat, (i : Int) < (M_people M).toInt → Q i = P i ∧ 0 ≤ (Q i).toInt) (hs : (M_tin M).toInt + sumP Q (M_people M).toInt.toNat ≤ 283) : Rel (X_now' X (T_parts' (X_now X) P)) (M_parts' M Q) := by
  refine ⟨⟨h.1.1, h.1.2.1, fun i hi => ?_, h.1.2.2.2.1, hs⟩, h.2.1, h.2.2.1, h.2.2.2⟩
  have h1 := h.1.2.2.1 i hi
  have h2 := hp i hi
  exact ⟨h1.1, h2.1, h1.2.2.1, h1.2.2.2.1, h2.2, h1.2.2.2.2.2⟩
theorem cl_ne {a b : Int32} (ha : 0 ≤ a.toInt) (hb : 0 ≤ b.toInt) (h : ¬ a = b) : a.toNatClampNeg ≠ b.toNatClampNeg := by
  intro e
  apply h
  rw [fa_eq]
  rw [Int32.toNatClampNeg, Int32.toNatClampNeg] at e
  omega
theorem cl_toInt {a : Int32} (ha : 0 ≤ a.toInt) : (a.toNatClampNeg : Int) = a.toInt := by
  rw [Int32.toNatClampNeg, Int.toNat_of_nonneg ha]
/-- a gathering, on both sides -/
theorem gg_L {T : TN} {M : MS} {p : Int32} (hc : M_people M = T_count T) (hI : M_isIn M = T_inside T) (hn : (M_people M).toInt ≤ 6) (hp : 0 ≤ p.toInt ∧ p.toInt < (M_people M).toInt) : ∀ (k : Nat) (x2 x3 : Int32) (P Q : Nat → Int32), 0 ≤ x3.toInt → x3.toInt ≤ (M_people M).toInt → (0 ≤ x2.toInt ∧ x2.toInt ≤ x3.toInt) → ((M_people M).toInt - x3.toInt).toNat < k → (∀ i : Nat, (i : Int) < (M_people M).toInt → Q i = P i ∧ 0 ≤ (Q i).toInt ∧ (Q i).toInt ≤ 300) →
    ∃ (g : Int32) (P' Q' : Nat → Int32), fL_X2_giveTo_4 T p k x2 x3 P = (g, T_parts' T P') ∧ fL_X4_doGather_4 M p k x2 x3 Q = (g, M_parts' M Q') ∧ (∀ i : Nat, (i : Int) < (M_people M).toInt → Q' i = P' i ∧ 0 ≤ (Q' i).toInt) ∧ sumP Q' (M_people M).toInt.toNat = sumP Q (M_people M).toInt.toNat + x2.toInt := by
  intro k
  induction k with
  | zero => intro x2 x3 P Q _ _ _ h; exact absurd h (Nat.not_lt_zero _)
  | succ k ih =>
    intro x2 x3 P Q h0 h1 h2 hk hpq
    rw [fL_X2_giveTo_4, fL_X4_doGather_4, ← hc]
    have hpn : (p.toNatClampNeg : Int) < (M_people M).toInt := by rw [cl_toInt hp.1]; exact hp.2
    by_cases c : M_people M ≤ x3
    · rw [if_pos c, if_pos c]
      have hq := hpq _ hpn
      have e1 : (Q p.toNatClampNeg + x2).toInt = (Q p.toNatClampNeg).toInt + x2.toInt := fb_addI (by omega) (by omega)
      refine ⟨x2, _, _, rfl, rfl, fun i hi => ?_, ?_⟩
      · by_cases e : i = p.toNatClampNeg
        · rw [e, pk_us, pk_us, ← hq.1]; exact ⟨rfl, by omega⟩
        · rw [pk_un e, pk_un e]; exact ⟨(hpq i hi).1, (hpq i hi).2.1⟩
      · rw [sumP_upd _ _ _ _ (by omega), e1]; omega
    · rw [if_neg c, if_neg c]
      have es := lp_s c
      have el := lp_lt c
      have hk' := lp_mu h0 c hk
      have h3n : (x3.toNatClampNeg : Int) < (M_people M).toInt := by rw [cl_toInt h0]; exact el
      have hq := hpq _ h3n
      by_cases c2 : x3 = p
      · rw [if_pos c2, if_pos c2]
        exact ih _ _ _ _ (by omega) (by omega) ⟨h2.1, by omega⟩ hk' hpq
      · rw [if_neg c2, if_neg c2]
        rw [show f_X2_isIn (T_parts' T P) x3 = f_X4_isOf (M_isIn M) x3 by rw [hI]; rfl]
        by_cases c3 : f_X4_isOf (M_isIn M) x3 = 0
        · rw [if_pos c3, if_pos c3]
          exact ih _ _ _ _ (by omega) (by omega) ⟨h2.1, by omega⟩ hk' hpq
        · rw [if_neg c3, if_neg c3, ← hq.1]
          by_cases c4 : Q x3.toNatClampNeg ≤ 0
          · rw [if_pos c4, if_pos c4]
            exact ih _ _ _ _ (by omega) (by omega) ⟨h2.1, by omega⟩ hk' hpq
          · rw [if_neg c4, if_neg c4]
            rw [fa_le, show (0 : Int32).toInt = 0 from rfl] at c4
            have e2 : (x2 + (1 : Int32)).toInt = x2.toInt + 1 := by
              rw [fb_addI] <;> rw [show (1 : Int32).toInt = 1 from rfl] <;> omega
            have e3 : (Q x3.toNatClampNeg - (1 : Int32)).toInt = (Q x3.toNatClampNeg).toInt - 1 := by
              rw [fb_subI] <;> rw [show (1 : Int32).toInt = 1 from rfl] <;> omega
            obtain ⟨g, P', Q', a1, a2, a3, a4⟩ := ih (x2 + (1 : Int32)) (x3 + (1 : Int32)) (upd P x3.toNatClampNeg (Q x3.toNatClampNeg - (1 : Int32))) (upd Q x3.toNatClampNeg (Q x3.toNatClampNeg - (1 : Int32))) (by omega) (by omega) (by omega) hk' (fun i hi => by
              by_cases e : i = x3.toNatClampNeg
              · rw [e, pk_us, pk_us]; exact ⟨rfl, by omega, by omega⟩
              · rw [pk_un e, pk_un e]; exact hpq i hi)
            refine ⟨g, P', Q', a1, a2, a3, ?_⟩
            rw [a4, sumP_upd _ _ _ _ (by omega), e2, e3]
            omega
theorem Rel.pq {X : XS} {M : MS} (h : Rel X M) : ∀ i : Nat, (i : Int) < (M_people M).toInt → M_parts M i = T_parts (X_now X) i ∧ 0 ≤ (M_parts M i).toInt ∧ (M_parts M i).toInt ≤ 300 := by
  intro i hi
  have h1 := h.bnd hi
  have h2 := h.tin
  exact ⟨(h.1.2.2.1 i hi).2.1, h1.1, by omega⟩
theorem gath_eq {X : XS} {M : MS} (hR : Rel X M) {p : Int32} (hp : 0 ≤ p.toInt ∧ p.toInt < (M_people M).toInt) : ∃ (g : Int32) (P' Q' : Nat → Int32), f_X2_giveTo (X_now X) p = (g, T_parts' (X_now X) P') ∧ f_X4_doGather M p = (g, M_parts' M Q') ∧ (∀ i : Nat, (i : Int) < (M_people M).toInt → Q' i = P' i ∧ 0 ≤ (Q' i).toInt) ∧ sumP Q' (M_people M).toInt.toNat = sumP (M_parts M) (M_people M).toInt.toNat := by
  obtain ⟨g, P', Q', a1, a2, a3, a4⟩ := gg_L hR.1.1.1 hR.1.1.2.1 hR.mn hp 7 0 0 (T_parts (X_now X)) (M_parts M) (by decide) (by have := hR.so.1.1; exact this) ⟨by decide, by decide⟩ (le6_mu hR.mn) hR.pq
  refine ⟨g, P', Q', a1, a2, a3, ?_⟩
  rw [a4, show (0 : Int32).toInt = 0 from rfl]
  omega
theorem rel_gather {X : XS} {M : MS} (hR : Rel X M) (x1 : Int32) : (f_X3_gather X x1).1 = (f_X4_gather M x1).1 ∧ Rel (f_X3_gather X x1).2 (f_X4_gather M x1).2 := by
  unfold f_X3_gather f_X4_gather f_X3_act
  rw [rel_has hR, acts_3]
  unfold f_X2_isIn
  rw [is01, ← hR.1.1.2.1]
  by_cases c1 : f_X4_isPerson M x1 = 0
  · simp only [if_pos c1]; exact ⟨trivial, hR⟩
  · simp only [if_neg c1]
    by_cases c2 : f_X4_isOf (M_isIn M) x1 = 0
    · rw [if_pos c2, if_pos c2]
      exact ⟨rfl, hR⟩
    · rw [if_neg c2, if_neg c2]
      obtain ⟨g, P', Q', a1, a2, a3, a4⟩ := gath_eq hR (mi_r c1)
      rw [a1, a2]
      exact ⟨rfl, hR.parts2 a3 (by rw [a4]; exact hR.1.2.2.2.2)⟩
theorem rel_reading {X : XS} {M : MS} (hR : Rel X M) (x1 x2 x3 : Int32) : (f_X3_reading X x1 x2 x3).1 = (f_X4_reading M x1 x2 x3).1 ∧ Rel (f_X3_reading X x1 x2 x3).2 (f_X4_reading M x1 x2 x3).2 := by
  unfold f_X3_reading f_X4_reading
  rw [rel_has hR, wi_ite, wi_ite, le_ite]
  by_cases c1 : f_X4_isPerson M x1 = 0
  · simp only [if_pos c1]; exact ⟨trivial, hR⟩
  · simp only [if_neg c1]
    by_cases c2 : x2 < 0
    · simp only [if_pos c2]; exact ⟨trivial, hR⟩
    · simp only [if_neg c2]
      by_cases c3 : (300 : Int32) < x2
      · simp only [if_pos c3]; exact ⟨trivial, hR⟩
      · simp only [if_neg c3]
        by_cases c4 : x3 < 0
        · simp only [if_pos c4]; exact ⟨trivial, hR⟩
        · simp only [if_neg c4]
          by_cases c5 : (600 : Int32) < x3
          · simp only [if_pos c5]; exact ⟨trivial, hR⟩
          · simp only [if_neg c5]
            have hm := hR.mr
            have er := hR.2.1.1
            rw [← er]
            by_cases c6 : M_readings M = (8 : Int32)
            · rw [if_pos c6, if_neg (by rw [c6]; decide)]
              exact ⟨rfl, hR⟩
            · have c7 : M_readings M < (8 : Int32) := by
                rw [fa_eq, show (8 : Int32).toInt = 8 from rfl] at c6
                rw [fa_lt, show (8 : Int32).toInt = 8 from rfl]
                omega
              rw [if_neg c6, if_pos c7]
              rw [fa_lt, show (8 : Int32).toInt = 8 from rfl] at c7
              rw [fa_lt, show (0 : Int32).toInt = 0 from rfl] at c2
              rw [fa_lt, show (300 : Int32).toInt = 300 from rfl] at c3
              have e1 : (M_readings M + (1 : Int32)).toInt = (M_readings M).toInt + 1 := by
                rw [fb_addI] <;> rw [show (1 : Int32).toInt = 1 from rfl] <;> omega
              refine ⟨?_, hR.1, ⟨?_, ?_, ?_⟩, hR.2.2.1, hR.2.2.2⟩
              · show R_count (X_said X) = (M_readings M + (1 : Int32)) - (1 : Int32)
                rw [← er]; exact (Int32.add_sub_cancel _ _).symm
              · show M_readings M + (1 : Int32) = R_count (X_said X) + (1 : Int32)
                rw [er]
              · show 0 ≤ (M_readings M + (1 : Int32)).toInt ∧ (M_readings M + (1 : Int32)).toInt ≤ 8
                omega
              · intro r hr
                have hr2 : (r : Int) < (M_readings M + (1 : Int32)).toInt := hr
                show upd (M_readWho M) (M_readings M).toNatClampNeg x1 r = upd (R_person (X_said X)) (R_count (X_said X)).toNatClampNeg x1 r ∧ upd (M_readParts M) (M_readings M).toNatClampNeg x2 r = upd (R_parts (X_said X)) (R_count (X_said X)).toNatClampNeg x2 r ∧ upd (M_readSaid M) (M_readings M).toNatClampNeg x3 r = upd (R_amount (X_said X)) (R_count (X_said X)).toNatClampNeg x3 r ∧ (0 ≤ (upd (M_readWho M) (M_readings M).toNatClampNeg x1 r).toInt ∧ (upd (M_readWho M) (M_readings M).toNatClampNeg x1 r).toInt < (M_people M).toInt) ∧ (0 ≤ (upd (M_readParts M) (M_readings M).toNatClampNeg x2 r).toInt ∧ (upd (M_readParts M) (M_readings M).toNatClampNeg x2 r).toInt ≤ 300)
                rw [← er]
                by_cases e : r = (M_readings M).toNatClampNeg
                · rw [e, pk_us, pk_us, pk_us, pk_us, pk_us, pk_us]
                  exact ⟨rfl, rfl, rfl, mi_r c1, by omega, by omega⟩
                · rw [pk_un e, pk_un e, pk_un e, pk_un e, pk_un e, pk_un e]
                  refine hR.2.1.2.2 r ?_
                  have := cl_toInt hm.1
                  omega
