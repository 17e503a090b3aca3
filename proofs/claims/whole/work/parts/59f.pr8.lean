/-! what was said: ears and kinds -/
theorem says_g (X : XS) (M : MS) {i n k t : Int32} (eK : M_kind M i.toNatClampNeg = k) (eT : M_thick M i.toNatClampNeg = t) (hk : 0 ≤ k.toInt ∧ k.toInt ≤ 2) (ht : 1 ≤ t.toInt ∧ t.toInt ≤ 9) (hn : 0 ≤ n.toInt) : f_X3_says k n t = f_X4_saysBy M i n :=
  says_eq (X := X_now' X (T_parts' (T_thick' (T_kind' (X_now X) (fun _ => k)) (fun _ => t)) (fun _ => (0 : Int32)))) (M := M_parts' M (fun _ => (0 : Int32))) (i := i) ⟨eK, rfl, eT, (show 0 ≤ (M_kind M i.toNatClampNeg).toInt ∧ (M_kind M i.toNatClampNeg).toInt ≤ 2 by rw [eK]; exact hk), (show 0 ≤ (0 : Int32).toInt by decide), (show 1 ≤ (M_thick M i.toNatClampNeg).toInt ∧ (M_thick M i.toNatClampNeg).toInt ≤ 9 by rw [eT]; exact ht)⟩ hn
theorem as_L {X : XS} {M M' : MS} (hR : Rel X M) {p k t : Int32} (hp : 0 ≤ p.toInt ∧ p.toInt < (M_people M).toInt) (hk : 0 ≤ k.toInt ∧ k.toInt ≤ 2) (ht : 1 ≤ t.toInt ∧ t.toInt ≤ 9) (e1 : M_readings M' = M_readings M) (e2 : M_readWho M' = M_readWho M) (e3 : M_readParts M' = M_readParts M) (e4 : M_readSaid M' = M_readSaid M) (eK : M_kind M' p.toNatClampNeg = k) (eT : M_thick M' p.toNatClampNeg = t) (oK : ∀ i : Nat, i ≠ p.toNatClampNeg → M_kind M' i = M_kind M i) (oT : ∀ i : Nat, i ≠ p.toNatClampNeg → M_thick M' i = M_thick M i) :
    ∀ (j : Nat) (x : Int32), 0 ≤ x.toInt → fL_X0_areSo_3 (X_said X) (X_now X) p k t j x = fL_X4_areSo_2 M' j x := by
  intro j
  induction j with
  | zero => intros; rfl
  | succ j ih =>
    intro x h0
    rw [fL_X0_areSo_3, fL_X4_areSo_2, e1, e2, e3, e4, ← hR.2.1.1]
    by_cases c : M_readings M ≤ x
    · rw [if_pos c, if_pos c]
    · rw [if_neg c, if_neg c]
      have hr := hR.2.1.2.2 _ (cl_lt h0 c)
      rw [← hr.1, ← hr.2.1, ← hr.2.2.1, ih _ (lp_pre h0 c)]
      have hw := hr.2.2.2.1
      have hn := hr.2.2.2.2.1
      by_cases c2 : M_readWho M x.toNatClampNeg = p
      · rw [if_pos c2, says_g X M' (i := M_readWho M x.toNatClampNeg) (by rw [c2]; exact eK) (by rw [c2]; exact eT) hk ht hn]
      · rw [if_neg c2]
        have hq := hR.1.2.2.1 _ (q_cl hw)
        have hne := cl_ne hw.1 hp.1 c2
        rw [says_g X M' (i := M_readWho M x.toNatClampNeg) (by rw [oK _ hne]; exact hq.1) (by rw [oT _ hne]; exact hq.2.2.1) (by rw [← hq.1]; exact hq.2.2.2.1) (by rw [← hq.2.2.1]; exact hq.2.2.2.2.2) hn]
theorem i9 : (9 : Int32).toInt = 9 := rfl
theorem i3 : (3 : Int32).toInt = 3 := rfl
theorem ea_L {X : XS} {M : MS} (hR : Rel X M) {p : Int32} (hp : 0 ≤ p.toInt ∧ p.toInt < (M_people M).toInt) : ∀ (k : Nat) (a x : Int32) (v : Nat → Int32), 1 ≤ x.toInt → x.toInt ≤ 10 → 11 ≤ x.toInt + k → (∀ i : Nat, i ≠ p.toNatClampNeg → v i = M_thick M i) → fL_X4_ears_22 M p ((M_thick M) p.toNatClampNeg) k a x v = (fL_X3_ears_17 X p k a x, M) := by
  intro k
  induction k with
  | zero => intro a x v h0 h1 h2 _; exact absurd h2 (by omega)
  | succ k ih =>
    intro a x v h0 h1 h2 hv
    rw [fL_X3_ears_17, fL_X4_ears_22]
    by_cases c : (9 : Int32) < x
    · rw [if_pos c, if_pos c]
      have e : upd v p.toNatClampNeg ((M_thick M) p.toNatClampNeg) = M_thick M := by
        funext i
        by_cases q : i = p.toNatClampNeg
        · rw [q, pk_us]
        · rw [pk_un q]; exact hv i q
      rw [e]
    · rw [if_neg c, if_neg c]
      rw [fa_lt, i9] at c
      have hq := hR.1.2.2.1 _ (q_cl hp)
      have ea : f_X0_areSo (X_said X) (X_now X) p ((T_kind (X_now X)) p.toNatClampNeg) x = f_X4_areSo (M_thick' M (upd v p.toNatClampNeg x)) :=
        as_L (M' := M_thick' M (upd v p.toNatClampNeg x)) hR hp (by rw [← hq.1]; exact hq.2.2.2.1) ⟨h0, by omega⟩ rfl rfl rfl rfl hq.1 (show upd v p.toNatClampNeg x p.toNatClampNeg = x from pk_us ..) (fun _ _ => rfl) (fun i hi => by show upd v p.toNatClampNeg x i = _; rw [pk_un hi]; exact hv i hi) 9 0 (by decide)
      have es : (x + (1 : Int32)).toInt = x.toInt + 1 := by rw [fb_addI] <;> rw [i1] <;> omega
      have hv' : ∀ i : Nat, i ≠ p.toNatClampNeg → upd v p.toNatClampNeg x i = M_thick M i := fun i hi => by rw [pk_un hi]; exact hv i hi
      rw [ea, Int32.or_zero, ih _ _ _ (by omega) (by omega) (by omega) hv', ih _ _ _ (by omega) (by omega) (by omega) hv']
      by_cases c2 : f_X4_areSo (M_thick' M (upd v p.toNatClampNeg x)) = 0
      · rw [if_pos c2, if_pos c2]
      · rw [if_neg c2, if_neg c2]
theorem rel_ears {X : XS} {M : MS} (hR : Rel X M) (x1 : Int32) : (f_X3_ears X x1) = (f_X4_ears M x1).1 ∧ Rel X (f_X4_ears M x1).2 := by
  unfold f_X3_ears f_X4_ears
  rw [rel_has hR]
  by_cases c : f_X4_isPerson M x1 = 0
  · rw [if_pos c, if_pos c]; exact ⟨rfl, hR⟩
  · rw [if_neg c, if_neg c, ea_L hR (mi_r c) _ _ _ _ (by decide) (by decide) (by decide) (fun _ _ => rfl)]
    exact ⟨rfl, hR⟩
theorem ki_L {X : XS} {M : MS} (hR : Rel X M) {p : Int32} (hp : 0 ≤ p.toInt ∧ p.toInt < (M_people M).toInt) : ∀ (k : Nat) (a x : Int32) (v : Nat → Int32), 0 ≤ x.toInt → x.toInt ≤ 3 → 4 ≤ x.toInt + k → (∀ i : Nat, i ≠ p.toNatClampNeg → v i = M_kind M i) → fL_X4_kinds_22 M p ((M_kind M) p.toNatClampNeg) k a x v = (fL_X3_kinds_17 X p k a x, M) := by
  intro k
  induction k with
  | zero => intro a x v h0 h1 h2 _; exact absurd h2 (by omega)
  | succ k ih =>
    intro a x v h0 h1 h2 hv
    rw [fL_X3_kinds_17, fL_X4_kinds_22]
    by_cases c : (2 : Int32) < x
    · have c' : (3 : Int32) ≤ x := by rw [fa_lt, i2] at c; rw [fa_le, i3]; omega
      rw [if_pos c, if_pos c']
      have e : upd v p.toNatClampNeg ((M_kind M) p.toNatClampNeg) = M_kind M := by
        funext i
        by_cases q : i = p.toNatClampNeg
        · rw [q, pk_us]
        · rw [pk_un q]; exact hv i q
      rw [e]
    · have c' : ¬ (3 : Int32) ≤ x := by rw [fa_lt, i2] at c; rw [fa_le, i3]; omega
      rw [if_neg c, if_neg c']
      rw [fa_lt, i2] at c
      have hq := hR.1.2.2.1 _ (q_cl hp)
      have ea : f_X0_areSo (X_said X) (X_now X) p x ((T_thick (X_now X)) p.toNatClampNeg) = f_X4_areSo (M_kind' M (upd v p.toNatClampNeg x)) :=
        as_L (M' := M_kind' M (upd v p.toNatClampNeg x)) hR hp ⟨h0, by omega⟩ (by rw [← hq.2.2.1]; exact hq.2.2.2.2.2) rfl rfl rfl rfl (show upd v p.toNatClampNeg x p.toNatClampNeg = x from pk_us ..) hq.2.2.1 (fun i hi => by show upd v p.toNatClampNeg x i = _; rw [pk_un hi]; exact hv i hi) (fun _ _ => rfl) 9 0 (by decide)
      have es : (x + (1 : Int32)).toInt = x.toInt + 1 := by rw [fb_addI] <;> rw [i1] <;> omega
      have hv' : ∀ i : Nat, i ≠ p.toNatClampNeg → upd v p.toNatClampNeg x i = M_kind M i := fun i hi => by rw [pk_un hi]; exact hv i hi
      rw [ea, Int32.or_zero, ih _ _ _ (by omega) (by omega) (by omega) hv', ih _ _ _ (by omega) (by omega) (by omega) hv']
      by_cases c2 : f_X4_areSo (M_kind' M (upd v p.toNatClampNeg x)) = 0
      · rw [if_pos c2, if_pos c2]
      · rw [if_neg c2, if_neg c2]
theorem rel_kinds {X : XS} {M : MS} (hR : Rel X M) (x1 : Int32) : (f_X3_kinds X x1) = (f_X4_kinds M x1).1 ∧ Rel X (f_X4_kinds M x1).2 := by
  unfold f_X3_kinds f_X4_kinds
  rw [rel_has hR]
  by_cases c : f_X4_isPerson M x1 = 0
  · rw [if_pos c, if_pos c]; exact ⟨rfl, hR⟩
  · rw [if_neg c, if_neg c, ki_L hR (mi_r c) _ _ _ _ (by decide) (by decide) (by decide) (fun _ _ => rfl)]
    exact ⟨rfl, hR⟩
