/-! a town is taken, on both sides -/
theorem t_or : ∀ (p : Fin 6) (a : Fin 64) (b : Fin 2), a.val < 2 ^ p.val → 0 ≤ (nI a.val ||| (nI b.val <<< (nI p.val &&& 31))).toInt ∧ (nI a.val ||| (nI b.val <<< (nI p.val &&& 31))).toInt < 2 ^ (p.val + 1) := by decide +kernel
theorem so_or {s b : Int32} {p : Nat} (hp : p < 6) (hs : so s (nI p)) (hb : 0 ≤ b.toInt ∧ b.toInt ≤ 1) : so (s ||| (b <<< (nI p &&& 31))) (nI (p + 1)) := by
  obtain ⟨a, q, hq, ha, rfl, e⟩ := so_nI hs
  have e2 : p = q := (nI_eq (by omega) (by omega)).mp e
  subst e2
  obtain ⟨c, c1, rfl, c2⟩ := nn_I hb.1
  obtain ⟨h1, h2⟩ := t_or ⟨p, hp⟩ ⟨a, pw6 hq ha⟩ ⟨c, by omega⟩ ha
  refine ⟨by rw [nI_toInt (by omega)]; omega, h1, ?_⟩
  rw [nI_toInt (by omega), Int.toNat_natCast]
  exact h2
theorem ko_b (x : Int32) : 0 ≤ (f_X2_kindOf x).toInt ∧ (f_X2_kindOf x).toInt ≤ 2 := by
  unfold f_X2_kindOf
  split
  · exact ⟨by decide, by decide⟩
  · split
    · exact ⟨by decide, by decide⟩
    · exact ⟨by decide, by decide⟩
theorem ad_sb (x b : Int32) : (x + b) - (48 : Int32) = x + (b - (48 : Int32)) := by
  rw [Int32.sub_eq_add_neg, Int32.sub_eq_add_neg, Int32.add_assoc]
def ofv (w : MS) := (M_sorts w, M_sheetLong w, M_cells w, M_fault w, M_trace w)
theorem tk_L {S : SH} {C : Nat → Int32} {I F K : Nat} (W : MS) (T0 : TN) (x3 : Int32) (R : Nat → Int32) (h6 : K ≤ 6) (hI : I + (3 + 6 * K) ≤ 60) (hc : ∀ m : Nat, m < 3 + 6 * K → S_cells S (I + m) = C (F + m)) (hr : ∀ p, p < K → pr C F R p) : ∀ (k p : Nat) (w : MS) (T : TN), p ≤ K → K - p < k → M_people w = nI K → T_count T = nI K → M_read w = R → M_isIn w = T_inside T → so (M_isIn w) (nI p) → (∀ i, i < p → RelP T w i ∧ (M_parts w i).toInt ≤ 39) →
    (M_people (fL_X4_takeTown_23 W k (nI p) w) = nI K ∧ T_count (fL_X2_become_38 T0 S (nI I) x3 k (nI p) T) = nI K) ∧ M_isIn (fL_X4_takeTown_23 W k (nI p) w) = T_inside (fL_X2_become_38 T0 S (nI I) x3 k (nI p) T) ∧ so (M_isIn (fL_X4_takeTown_23 W k (nI p) w)) (nI K) ∧ (∀ i, i < K → RelP (fL_X2_become_38 T0 S (nI I) x3 k (nI p) T) (fL_X4_takeTown_23 W k (nI p) w) i ∧ (M_parts (fL_X4_takeTown_23 W k (nI p) w) i).toInt ≤ 39) ∧ (M_tin (fL_X4_takeTown_23 W k (nI p) w) = M_tin w ∧ T_tin (fL_X2_become_38 T0 S (nI I) x3 k (nI p) T) = T_tin T) ∧ (M_days (fL_X4_takeTown_23 W k (nI p) w) = 0 ∧ M_readings (fL_X4_takeTown_23 W k (nI p) w) = 0) ∧ ofv (fL_X4_takeTown_23 W k (nI p) w) = ofv w := by
  intro k
  induction k with
  | zero => intro p w T _ h; exact absurd h (Nat.not_lt_zero _)
  | succ k ih =>
    intro p w T hp hk eP eT eR eI hs hq
    have atC : ∀ m j : Nat, m = I + j → j < 3 + 6 * K → f_X1_at S (nI m) = C (F + j) := by
      intro m j h1 h2
      rw [h1, at_n _ (by omega), hc j h2]
    rw [fL_X4_takeTown_23, fL_X2_become_38, eP, eT]
    by_cases c : nI K ≤ nI p
    · have c' := (nI_leI (by omega) (by omega)).mp c
      have ep : p = K := by omega
      rw [if_pos c, if_pos c]
      refine ⟨⟨eP, eT⟩, eI, ?_, fun i hi => ?_, ⟨rfl, rfl⟩, ⟨rfl, rfl⟩, rfl⟩
      · rw [← ep]; exact hs
      · exact hq i (by omega)
    · have c' : p < K := by
        rcases Nat.lt_or_ge p K with h | h
        · exact h
        · exact absurd ((nI_leI (by omega) (by omega)).mpr h) c
      obtain ⟨⟨r1, r2, r3, r4⟩, b2, b3, b4, b5⟩ := hr p c'
      rw [if_neg c, if_neg c, eR, n_4m, n_a3 I, n_m6, nI_add, nI_1, nI_1, nI_1, n_a2, n_a2, n_a3, n_a4, n_a5]
      unfold f_X2_twoDigits
      rw [nI_1, nI_clamp (by omega), nI_clamp (by omega), nI_clamp (by omega), nI_clamp (by omega), nI_clamp (by omega), r1, r2, r3, r4]
      rw [atC (I + 3 + p * 6 + 1) (3 + 6 * p + 1) (by omega) (by omega), atC (I + 3 + p * 6 + 2) (3 + 6 * p + 2) (by omega) (by omega), atC (I + 3 + p * 6 + 2 + 1) (3 + 6 * p + 3) (by omega) (by omega), atC (I + 3 + p * 6 + 4) (3 + 6 * p + 4) (by omega) (by omega), atC (I + 3 + p * 6 + 5) (3 + 6 * p + 5) (by omega) (by omega), ad_sb]
      have v2 := two_v (a := C (F + (3 + 6 * p + 2))) (b := C (F + (3 + 6 * p + 3))) ⟨b2.1, by omega⟩ b3
      have v4 := s48 (x := C (F + (3 + 6 * p + 4))) ⟨by omega, b4.2⟩
      have v5 := s48 (x := C (F + (3 + 6 * p + 5))) ⟨b5.1, by omega⟩
      have vk := ko_b (C (F + (3 + 6 * p + 1)))
      generalize f_X2_kindOf (C (F + (3 + 6 * p + 1))) = y1 at vk ⊢
      generalize (10 : Int32) * (C (F + (3 + 6 * p + 2)) - (48 : Int32)) + (C (F + (3 + 6 * p + 3)) - (48 : Int32)) = y2 at v2 ⊢
      generalize C (F + (3 + 6 * p + 4)) - (48 : Int32) = y4 at v4 ⊢
      generalize C (F + (3 + 6 * p + 5)) - (48 : Int32) = y5 at v5 ⊢
      refine ih (p + 1) (M_isIn' (M_thick' (M_parts' (M_kind' w (upd (M_kind w) p y1)) (upd (M_parts w) p y2)) (upd (M_thick w) p y4)) ((M_isIn w) ||| (y5 <<< (nI p &&& 31)))) (T_inside' (T_thick' (T_parts' (T_kind' T (upd (T_kind T) p y1)) (upd (T_parts T) p y2)) (upd (T_thick T) p y4)) ((T_inside T) ||| (y5 <<< (nI p &&& 31)))) (by omega) (by omega) eP eT eR ?_ ?_ (fun i hi => ?_)
      · show (M_isIn w) ||| (y5 <<< (nI p &&& 31)) = (T_inside T) ||| (y5 <<< (nI p &&& 31))
        rw [eI]
      · exact so_or (by omega) hs ⟨by omega, by omega⟩
      · show (upd (M_kind w) p y1 i = upd (T_kind T) p y1 i ∧ upd (M_parts w) p y2 i = upd (T_parts T) p y2 i ∧ upd (M_thick w) p y4 i = upd (T_thick T) p y4 i ∧ (0 ≤ (upd (M_kind w) p y1 i).toInt ∧ (upd (M_kind w) p y1 i).toInt ≤ 2) ∧ 0 ≤ (upd (M_parts w) p y2 i).toInt ∧ (1 ≤ (upd (M_thick w) p y4 i).toInt ∧ (upd (M_thick w) p y4 i).toInt ≤ 9)) ∧ (upd (M_parts w) p y2 i).toInt ≤ 39
        by_cases e : i = p
        · rw [e, pk_us, pk_us, pk_us, pk_us, pk_us, pk_us]
          exact ⟨⟨rfl, rfl, rfl, vk, by omega, by omega, by omega⟩, by omega⟩
        · rw [pk_un e, pk_un e, pk_un e, pk_un e, pk_un e, pk_un e]
          exact hq i (by omega)
theorem sumP_b (P : Nat → Int32) : ∀ n : Nat, (∀ i, i < n → (P i).toInt ≤ 39) → sumP P n ≤ 39 * n := by
  intro n
  induction n with
  | zero => intro _; exact Int.le_refl _
  | succ n ih =>
    intro h
    have h1 := ih (fun i hi => h i (by omega))
    have h2 := h n (by omega)
    show sumP P n + (P n).toInt ≤ 39 * ((n + 1 : Nat) : Int)
    omega
theorem n_sb (F m : Nat) : nI (F + m) - nI F = nI m := by
  rw [Nat.add_comm, ← nI_add]
  exact Int32.add_sub_cancel _ _
theorem rel_town {X : XS} {M : MS} (hR : Rel X M) (x1 x2 x3 x4 : Int32) : (f_X3_town X x1 x2 x3 x4).1 = (f_X4_town M x1 x2 x3 x4).1 ∧ Rel (f_X3_town X x1 x2 x3 x4).2 (f_X4_town M x1 x2 x3 x4).2 := by
  have hR0 := hR.fault (0 : Int32)
  unfold f_X3_town f_X4_town
  rw [sh_ite, lane_eq]
  by_cases c1 : f_X4_isSheet x1 = 0
  · rw [if_pos c1, if_pos c1]; exact ⟨rfl, hR0⟩
  · rw [if_neg c1, if_neg c1]
    by_cases c2 : f_X4_isSort x2 = 0
    · rw [if_pos c2, if_pos c2]; exact ⟨rfl, hR0⟩
    · rw [if_neg c2, if_neg c2]
      have hx := sh_in c1
      have hS := hR.sheet hx
      have ef : f_X1_faultOf (X_sheets X x1.toNatClampNeg) x2 x3 x4 = f_X4_against (M_fault' M (0 : Int32)) x1 x2 x3 x4 := fo_eq (M := M_fault' M (0 : Int32)) hS
      rw [ef]
      by_cases c6 : f_X4_against (M_fault' M (0 : Int32)) x1 x2 x3 x4 = 0
      · rw [if_pos c6, if_pos c6]
        have hcl := fo_cells (M := M_fault' M (0 : Int32)) (x1 := x1) hS c6
        have hr := ag_r (M := M_fault' M (0 : Int32)) hR.mL hx c6
        clear c6 ef hS
        obtain ⟨J, j1, e1, j2⟩ := nn_I (vp_in_iff.mp hx).1
        have hJ : J < 4 := by have := (vp_in_iff.mp hx).2; omega
        obtain ⟨I, i1', e3, i2'⟩ := nn_I hr.1
        obtain ⟨n, n1, e4, n2⟩ := nn_I hr.2.1
        rw [e1] at hcl ⊢
        rw [e3, e4, n_60, nI_add, nI_add, nI_clamp (by omega)]
        rw [nI_clamp (by omega)] at hcl
        have hc : ∀ m : Nat, m < n → S_cells (X_sheets X J) (I + m) = M_cells M (60 * J + I + m) := by
          intro m hm
          have := hcl (I + m) (by omega)
          rw [this]
          show M_cells M (60 * J + (I + m)) = _
          rw [Nat.add_assoc]
        have hw := rt_c (C := M_cells M) (F := 60 * J + I) (n := n) (M_at' (M_fault' M (0 : Int32)) (nI (60 * J + I))) (by omega) rfl rfl
        generalize f_X4_readTown (M_at' (M_fault' M (0 : Int32)) (nI (60 * J + I))) (nI (60 * J + I + n)) = G at hw ⊢
        rcases hw with ⟨K, k1, k2, k3, k4, k5, ⟨k6, k7, k8⟩, k9, k10⟩ | ⟨k1, m, k2, k3, k4, k5⟩
        · rw [ff_whole (by omega) hc k4 k2 k3.1, if_pos rfl, if_neg k1]
          have hv := two_v (a := M_cells M (60 * J + I + 1)) (b := M_cells M (60 * J + I + 2)) ⟨k7.1, by omega⟩ k8
          have ec : (if (0 : Int32) < (if (6 : Int32) < ((nI n - (3 : Int32)) / (6 : Int32)) then (6 : Int32) else ((nI n - (3 : Int32)) / (6 : Int32))) then (if (6 : Int32) < ((nI n - (3 : Int32)) / (6 : Int32)) then (6 : Int32) else ((nI n - (3 : Int32)) / (6 : Int32))) else (0 : Int32)) = nI K := by
            have e : (nI n - (3 : Int32)) / (6 : Int32) = nI K := by
              rw [n_m3 (by omega)]
              exact (pk_div (a := n - 3) (d := 6) (by omega) (by omega) (by omega)).trans (congrArg nI (by omega))
            rw [e]
            have e2 : ¬ (6 : Int32) < nI K := by rw [fa_lt, i6, nI_toInt (by omega)]; omega
            rw [if_neg e2, if_pos (by rw [fa_lt, i0, nI_toInt (by omega)]; omega)]
          have et : f_X2_twoDigits (X_sheets X J) (nI I + (1 : Int32)) = (10 : Int32) * (M_cells M (60 * J + I + 1) - (48 : Int32)) + (M_cells M (60 * J + I + 2) - (48 : Int32)) := by
            unfold f_X2_twoDigits
            rw [nI_1, nI_1, at_n _ (by omega), at_n _ (by omega), hc 1 (by omega), hc 2 (by omega), ad_sb]
          have so00 : so (0 : Int32) (nI 0) := ⟨⟨by decide, by decide⟩, by decide, by decide⟩
          have hL := tk_L (S := X_sheets X J) (C := M_cells M) (I := I) (F := 60 * J + I) (K := K) G.2 (X_now X) (nI n) (M_read G.2) k3.2 (by omega) (fun m hm => hc m (by omega)) k10 7 0 (M_isIn' (M_people' (M_tin' G.2 (M_readTin G.2)) (M_readPeople G.2)) (0 : Int32)) (T_inside' (T_tin' (T_count' (X_now X) (nI K)) ((10 : Int32) * (M_cells M (60 * J + I + 1) - (48 : Int32)) + (M_cells M (60 * J + I + 2) - (48 : Int32)))) (0 : Int32)) (by omega) (by omega) k9 rfl rfl rfl so00 (fun i hi => absurd hi (Nat.not_lt_zero _))
          rw [nI_0] at hL
          unfold f_X2_become f_X4_takeTown
          rw [ec, et]
          generalize fL_X2_become_38 (X_now X) (X_sheets X J) (nI I) (nI n) 7 (0 : Int32) (T_inside' (T_tin' (T_count' (X_now X) (nI K)) ((10 : Int32) * (M_cells M (60 * J + I + 1) - (48 : Int32)) + (M_cells M (60 * J + I + 2) - (48 : Int32)))) (0 : Int32)) = T' at hL ⊢
          generalize fL_X4_takeTown_23 G.2 7 (0 : Int32) (M_isIn' (M_people' (M_tin' G.2 (M_readTin G.2)) (M_readPeople G.2)) (0 : Int32)) = w' at hL ⊢
          obtain ⟨⟨h1, h2⟩, h3, h4, h5, ⟨h6, h7⟩, ⟨h8, h9⟩, h10⟩ := hL
          have h6' : M_tin w' = (10 : Int32) * (M_cells M (60 * J + I + 1) - (48 : Int32)) + (M_cells M (60 * J + I + 2) - (48 : Int32)) := h6.trans k6
          have h7' : T_tin T' = (10 : Int32) * (M_cells M (60 * J + I + 1) - (48 : Int32)) + (M_cells M (60 * J + I + 2) - (48 : Int32)) := h7
          have o1 : M_sorts w' = M_sorts M := Eq.trans (congrArg (fun t => t.1) h10) (congrArg (fun t => t.2.2.2.2.2.2.2.1) k5)
          have o2 : M_sheetLong w' = M_sheetLong M := Eq.trans (congrArg (fun t => t.2.1) h10) (congrArg (fun t => t.2.2.2.2.2.2.2.2.1) k5)
          have o3 : M_cells w' = M_cells M := Eq.trans (congrArg (fun t => t.2.2.1) h10) ((kf_cells k5).trans rfl)
          have o4 : M_fault w' = 0 := Eq.trans (congrArg (fun t => t.2.2.2.1) h10) (congrArg (fun t => t.2.2.2.2.2.2.2.2.2.1) k5)
          have o5 : M_trace w' = M_trace M := Eq.trans (congrArg (fun t => t.2.2.2.2) h10) (congrArg (fun t => t.2.2.2.2.2.2.2.2.2.2.1) k5)
          refine ⟨h2.trans h1.symm, ⟨⟨h1.trans h2.symm, h3, h6'.trans h7'.symm⟩, ?_, fun i hi => ?_, ?_, ?_⟩, ⟨h9, ?_, fun r hr => ?_⟩, ⟨h8, o5.trans hR.2.2.1.2.1, o4⟩, ?_⟩
          · rw [h1]; exact h4
          · rw [h1, nI_toInt (by omega)] at hi
            exact (h5 i (by omega)).1
          · rw [h6', hv]; omega
          · have hb := sumP_b (M_parts w') K (fun i hi => (h5 i hi).2)
            show (M_tin w').toInt + sumP (M_parts w') (M_people w').toInt.toNat ≤ 283
            rw [h1, nI_toInt (by omega), Int.toNat_natCast, h6', hv]
            omega
          · rw [h9]; exact ⟨by decide, by decide⟩
          · rw [h9, i0] at hr; exact absurd hr (by omega)
          · rw [o1, o2, o3]; exact hR.2.2.2
        · have hm := k2.1
          rw [ff_stop (by omega) hc k2 k3, if_neg (by rw [fa_eq, n9i, nI_toInt (by omega)]; omega), if_pos k1, k4, n_sb]
          refine ⟨rfl, ?_⟩
          exact hR0.cong (rl_kf k5) (kf_isIn k5) (congrArg (fun t => t.2.2.2.2.1) k5) (fun i _ => congrFun (congrArg (fun t => t.2.2.2.2.2.1) k5) i)
      · rw [if_neg c6, if_neg c6]
        exact ⟨rfl, hR0.fault _⟩
