/-! a day, on both sides -/
theorem wj_s {N S j : Nat} (hS : S < N) (hj : j + 1 < N) : (if wj N S j + 1 = N then 0 else wj N S j + 1) = wj N S (j + 1) := by
  unfold wj
  repeat' split
  all_goals omega
theorem shr_L {M : MS} {N S i : Nat} {s P Z : Int32} (h6 : N ≤ 6) (eN : M_people M = nI N) (hS : S < N) (hi : i < N) : ∀ (k j : Nat), j ≤ jf N S i → jf N S i - j < k → fL_X4_shareOf_19 M s (nI S) (nI i) P Z k (nI (cj s N S j)) (nI (wj N S j)) = (if (P - P / Z * Z) ≤ nI (cj s N S (jf N S i)) then (P / Z) + (0 : Int32) else (P / Z) + (1 : Int32)) := by
  intro k
  induction k with
  | zero => intro j _ h; exact absurd h (Nat.not_lt_zero _)
  | succ k ih =>
    intro j hj hk
    have hJ := jf_lt hS hi
    have hw := wj_lt hS (show j < N by omega)
    rw [fL_X4_shareOf_19]
    by_cases c : nI (wj N S j) = nI i
    · have c' := (nI_eq (by omega) (by omega)).mp c
      have e : jf N S i = j := by rw [← c', jf_wj hS (by omega)]
      rw [if_pos c, e]
    · have hne : j ≠ jf N S i := fun e => c (by rw [e, wj_jf hS hi])
      rw [if_neg c, eN, nI_1]
      have es := wj_s hS (show j + 1 < N by omega)
      have e1 : cj s N S (j + 1) = cj s N S j + (if f_X4_isOf s (nI (wj N S j)) = 0 then 0 else 1) := rfl
      have step := ih (j + 1) (by omega) (by omega)
      rw [← es] at step
      by_cases c2 : f_X4_isOf s (nI (wj N S j)) = 0
      · rw [if_pos c2, Nat.add_zero] at e1
        rw [e1] at step
        rw [if_pos c2, Int32.add_zero]
        by_cases c3 : nI (wj N S j + 1) = nI N
        · rw [if_pos ((nI_eq (by omega) (by omega)).mp c3), nI_0] at step
          rw [if_pos c3]; exact step
        · rw [if_neg (fun q => c3 (by rw [q]))] at step
          rw [if_neg c3]; exact step
      · rw [if_neg c2] at e1
        rw [e1] at step
        rw [if_neg c2, nI_1]
        by_cases c3 : nI (wj N S j + 1) = nI N
        · rw [if_pos ((nI_eq (by omega) (by omega)).mp c3), nI_0] at step
          rw [if_pos c3]; exact step
        · rw [if_neg (fun q => c3 (by rw [q]))] at step
          rw [if_neg c3]; exact step
theorem shr_eq {M : MS} {N S i a : Nat} {s : Int32} (h6 : N ≤ 6) (eN : M_people M = nI N) (hS : S < N) (hi : i < N) (ha : a ≤ 300) (hs : so s (nI N)) (hz : ¬ s = 0) (ep : f_X4_partsOf M s = nI a) : f_X4_shareOf M s (nI S) (nI i) = nI (sv a (cj s N S N) (cj s N S (jf N S i))) := by
  have e1 := so_cj hs rfl h6 hS
  have hc := cj_le s N S N
  have hc2 := cj_le s N S (jf N S i)
  have hJ := jf_lt hS hi
  have e2 := so_szp hs hz
  rw [← e1, nI_toInt (by omega)] at e2
  have hh : 0 < cj s N S N := by omega
  have hm := Nat.mod_lt a hh
  have hd : a / cj s N S N ≤ a := Nat.div_le_self _ _
  have h := shr_L (M := M) (s := s) (P := nI a) (Z := nI (cj s N S N)) h6 eN hS hi 7 0 (by omega) (by omega)
  have e3 : wj N S 0 = S := by unfold wj; rw [if_pos (by omega)]; rfl
  rw [e3, show cj s N S 0 = 0 from rfl, nI_0] at h
  unfold f_X4_shareOf
  rw [ep, ← e1, h, pk_rem (by omega) hh (by omega), pk_div (by omega) hh (by omega)]
  unfold sv
  by_cases c : a % cj s N S N ≤ cj s N S (jf N S i)
  · rw [if_pos ((nI_leI (by omega) (by omega)).mpr c), if_pos c, Int32.add_zero, Nat.add_zero]
  · rw [if_neg (fun q => c ((nI_leI (by omega) (by omega)).mp q)), if_neg c, nI_1]
theorem po_sh (M : MS) (sh : Nat → Int32) (s : Int32) : ∀ (k : Nat) (a p : Int32), fL_X4_partsOf_4 (M_shared' M sh) s k a p = fL_X4_partsOf_4 M s k a p := by
  intro k
  induction k with
  | zero => intros; rfl
  | succ k ih =>
    intro a p
    rw [fL_X4_partsOf_4, fL_X4_partsOf_4, ih, ih]
theorem dd_54 {M : MS} {N : Nat} (h6 : N ≤ 6) (eN : M_people M = nI N) (x1 : Int32) (sh : Nat → Int32) : ∀ (k j : Nat) (v : Nat → Int32), j ≤ N → N - j < k → ∃ Q : Nat → Int32, fL_X4_doDay_54 M x1 k (nI j) sh v = M_parts' (M_shared' M sh) Q ∧ ∀ i : Nat, Q i = if j ≤ i ∧ i < N then sh i else v i := by
  intro k
  induction k with
  | zero => intro j v _ h; exact absurd h (Nat.not_lt_zero _)
  | succ k ih =>
    intro j v hj hk
    rw [fL_X4_doDay_54, eN, nI_1, nI_clamp (by omega)]
    by_cases c : nI N ≤ nI j
    · have c' := (nI_leI (by omega) (by omega)).mp c
      rw [if_pos c]
      exact ⟨v, rfl, fun i => by rw [if_neg (by omega)]⟩
    · have c' : j < N := by
        rcases Nat.lt_or_ge j N with h | h
        · exact h
        · exact absurd ((nI_leI (by omega) (by omega)).mpr h) c
      rw [if_neg c]
      obtain ⟨Q, e, h⟩ := ih (j + 1) (upd v j (sh j)) (by omega) (by omega)
      refine ⟨Q, e, fun i => ?_⟩
      rw [h i]
      by_cases e : i = j
      · rw [e, if_neg (by omega), if_pos (by omega), pk_us]
      · rw [pk_un e]
        by_cases d : j ≤ i ∧ i < N
        · rw [if_pos d, if_pos (by omega)]
        · rw [if_neg d, if_neg (by omega)]
/-- what one has behind a day from S on -/
def dq (M : MS) (N S a i : Nat) : Int32 := if f_X4_isOf (M_isIn M) (nI i) = 0 then M_parts M i else nI (sv a (cj (M_isIn M) N S N) (cj (M_isIn M) N S (jf N S i)))
theorem dd_2 {M : MS} {N S a : Nat} (h6 : N ≤ 6) (eN : M_people M = nI N) (hS : S < N) (ha : a ≤ 300) (hs : so (M_isIn M) (nI N)) (hz : ¬ M_isIn M = 0) (ep : f_X4_partsOf M (M_isIn M) = nI a) : ∀ (k j : Nat) (sh : Nat → Int32), j ≤ N → N - j < k → (∀ i, i < j → sh i = dq M N S a i) → ∃ sh' Q : Nat → Int32, fL_X4_doDay_2 M (nI S) k (nI j) sh = M_parts' (M_shared' M sh') Q ∧ ∀ i : Nat, i < N → Q i = dq M N S a i := by
  intro k
  induction k with
  | zero => intro j sh _ h; exact absurd h (Nat.not_lt_zero _)
  | succ k ih =>
    intro j sh hj hk hsh
    rw [fL_X4_doDay_2, eN, nI_1, nI_clamp (by omega)]
    by_cases c : nI N ≤ nI j
    · have c' := (nI_leI (by omega) (by omega)).mp c
      rw [if_pos c]
      obtain ⟨Q, e, h⟩ := dd_54 h6 eN (nI S) sh 7 0 (M_parts M) (by omega) (by omega)
      rw [nI_0] at e
      refine ⟨sh, Q, e, fun i hi => ?_⟩
      rw [h i, if_pos (by omega), hsh i (by omega)]
    · have c' : j < N := by
        rcases Nat.lt_or_ge j N with h | h
        · exact h
        · exact absurd ((nI_leI (by omega) (by omega)).mpr h) c
      rw [if_neg c]
      have nx : ∀ x : Int32, x = dq M N S a j → ∃ sh' Q : Nat → Int32, fL_X4_doDay_2 M (nI S) k (nI (j + 1)) (upd sh j x) = M_parts' (M_shared' M sh') Q ∧ ∀ i : Nat, i < N → Q i = dq M N S a i := by
        intro x hx
        refine ih (j + 1) _ (by omega) (by omega) (fun i hi => ?_)
        by_cases e : i = j
        · rw [e, pk_us, hx]
        · rw [pk_un e]; exact hsh i (by omega)
      by_cases c2 : f_X4_isOf (M_isIn M) (nI j) = 0
      · rw [if_pos c2]
        exact nx _ (by unfold dq; rw [if_pos c2])
      · rw [if_neg c2]
        refine nx _ ?_
        unfold dq
        rw [if_neg c2]
        exact shr_eq (M := M_shared' M sh) h6 eN hS c' ha hs hz (by rw [← ep]; exact po_sh M sh _ _ _ _)
theorem sf_L {T : TN} {N : Nat} {s : Int32} (h6 : N ≤ 6) (eN : T_count T = nI N) (es : T_inside T = s) (x1 x2 x3 : Int32) (hx : ¬ x3 ≤ 0) : ∀ (k j : Nat) (v : Nat → Int32), j ≤ N → N - j < k → (∀ i, v i = if i < j ∧ ¬ f_X4_isOf s (nI i) = 0 then (0 : Int32) else T_parts T i) → ∃ v' : Nat → Int32, fL_X2_shareFrom_17 T x1 x2 x3 k (nI j) v = (x2 / x3, f_X2_handOut (T_parts' T v') x2 x1) ∧ ∀ i, v' i = if i < N ∧ ¬ f_X4_isOf s (nI i) = 0 then (0 : Int32) else T_parts T i := by
  intro k
  induction k with
  | zero => intro j v _ h; exact absurd h (Nat.not_lt_zero _)
  | succ k ih =>
    intro j v hj hk hv
    rw [fL_X2_shareFrom_17, eN, nI_1, nI_clamp (by omega)]
    unfold f_X2_isIn
    rw [mem_eq, show T_inside (T_parts' T v) = s from es]
    by_cases c : nI N ≤ nI j
    · have c' := (nI_leI (by omega) (by omega)).mp c
      have ej : j = N := by omega
      rw [if_pos c, if_neg hx]
      exact ⟨v, rfl, fun i => by rw [hv i, ej]⟩
    · have c' : j < N := by
        rcases Nat.lt_or_ge j N with h | h
        · exact h
        · exact absurd ((nI_leI (by omega) (by omega)).mpr h) c
      rw [if_neg c]
      have nx : ∀ x : Int32, x = (if ¬ f_X4_isOf s (nI j) = 0 then (0 : Int32) else T_parts T j) → ∃ v' : Nat → Int32, fL_X2_shareFrom_17 T x1 x2 x3 k (nI (j + 1)) (upd v j x) = (x2 / x3, f_X2_handOut (T_parts' T v') x2 x1) ∧ ∀ i, v' i = if i < N ∧ ¬ f_X4_isOf s (nI i) = 0 then (0 : Int32) else T_parts T i := by
        intro x hx
        refine ih (j + 1) _ (by omega) (by omega) (fun i => ?_)
        by_cases e : i = j
        · rw [e, pk_us, hx]
          by_cases d : f_X4_isOf s (nI j) = 0
          · rw [if_neg (fun q => q d), if_neg (fun q => q.2 d)]
          · rw [if_pos d, if_pos ⟨by omega, d⟩]
        · rw [pk_un e, hv i]
          by_cases d : i < j ∧ ¬ f_X4_isOf s (nI i) = 0
          · rw [if_pos d, if_pos ⟨by omega, d.2⟩]
          · rw [if_neg d, if_neg (fun q => d ⟨by omega, q.2⟩)]
      by_cases c2 : f_X4_isOf s (nI j) = 0
      · rw [if_pos c2]
        exact nx _ (by rw [hv j, if_neg (by omega), if_neg (fun q => q c2)])
      · rw [if_neg c2]
        exact nx _ (by rw [if_pos c2])
theorem pz_L {X : XS} {M : MS} (hR : Rel X M) {N : Nat} {s : Int32} (v1 : Nat → Int32) (h6 : N ≤ 6) (eN : M_people M = nI N) (hN : (M_people M).toInt = N) (hv : ∀ i, i < N → v1 i = if f_X4_isOf s (nI i) = 0 then M_parts M i else (0 : Int32)) : ∀ (k j : Nat) (a : Int32), j ≤ N → a.toInt = sumP (M_parts M) j - sumP v1 j → N - j < k → (fL_X4_partsOf_4 M s k a (nI j)).toInt = sumP (M_parts M) N - sumP v1 N := by
  intro k
  induction k with
  | zero => intro j a _ _ h; exact absurd h (Nat.not_lt_zero _)
  | succ k ih =>
    intro j a hj ha hk
    rw [fL_X4_partsOf_4, eN, nI_1, nI_clamp (by omega)]
    by_cases c : nI N ≤ nI j
    · have c' := (nI_leI (by omega) (by omega)).mp c
      have ej : j = N := by omega
      rw [if_pos c, ha, ej]
    · have c' : j < N := by
        rcases Nat.lt_or_ge j N with h | h
        · exact h
        · exact absurd ((nI_leI (by omega) (by omega)).mpr h) c
      rw [if_neg c]
      have e1 : sumP (M_parts M) (j + 1) = sumP (M_parts M) j + (M_parts M j).toInt := rfl
      have e2 : sumP v1 (j + 1) = sumP v1 j + (v1 j).toInt := rfl
      have hpn : ∀ i, i < N → 0 ≤ (M_parts M i).toInt := fun i hi => hR.pn i (by omega)
      have hm := sumP_mono (M_parts M) N hpn (j + 1) (by omega)
      have hb := hR.1.2.2.2
      rw [show (M_people M).toInt.toNat = N by omega] at hb
      have h1 := (sumP_nn v1 j (fun i hi => by
        rw [hv i (by omega)]
        split
        · exact hpn i (by omega)
        · decide)).1
      have hpj := hpn j c'
      have hr := fb_rng a
      by_cases c2 : f_X4_isOf s (nI j) = 0
      · rw [if_pos c2, Int32.add_zero]
        have e3 : v1 j = M_parts M j := by rw [hv j c', if_pos c2]
        refine ih (j + 1) _ (by omega) ?_ (by omega)
        rw [e1, e2, e3, ha]; omega
      · rw [if_neg c2]
        have e3 : v1 j = (0 : Int32) := by rw [hv j c', if_neg c2]
        refine ih (j + 1) _ (by omega) ?_ (by omega)
        rw [e1, e2, e3, i0]
        rw [fb_addI] <;> omega
theorem Rel.days {X : XS} {M : MS} (h : Rel X M) (v : Int32) : Rel (X_daysGone' X v) (M_days' M v) := ⟨h.1, h.2.1, ⟨rfl, h.2.2.1.2⟩, h.2.2.2⟩
theorem act_day {X : XS} {M : MS} (hR : Rel X M) {p : Int32} (hp : 0 ≤ p.toInt ∧ p.toInt < (M_people M).toInt) (hz : ¬ M_isIn M = 0) : (f_X2_shareFrom (X_now X) p).1 = f_X4_partsOf M (M_isIn M) / f_X4_size (M_isIn M) ∧ 0 ≤ (f_X2_shareFrom (X_now X) p).1.toInt ∧ Rel (X_now' X (f_X2_shareFrom (X_now X) p).2) (f_X4_doDay M p) := by
  obtain ⟨N, h6, eN, hN⟩ := hR.N
  obtain ⟨S, S1, rfl, S2⟩ := nn_I hp.1
  have hS : S < N := by omega
  have hs : so (M_isIn M) (nI N) := by rw [← eN]; exact hR.so
  have hb := po_bnd hR (M_isIn M)
  obtain ⟨a, a1, ea, a2⟩ := nn_I hb.1
  have e1 := so_cj hs rfl h6 hS
  have hc := cj_le (M_isIn M) N S N
  have e2 := so_szp hs hz
  have e2' := e2
  rw [← e1, nI_toInt (by omega)] at e2
  have hh : 0 < cj (M_isIn M) N S N := by omega
  have eT : T_count (X_now X) = nI N := by rw [← hR.1.1.1]; exact eN
  have eI : T_inside (X_now X) = M_isIn M := hR.1.1.2.1.symm
  have eh : f_X2_heads (X_now X) = f_X4_size (M_isIn M) := by unfold f_X2_heads; rw [eI]; exact so_bs hs
  obtain ⟨v1, q1, q2⟩ := sf_L h6 eT eI (nI S) (nI a) (f_X4_size (M_isIn M)) (by rw [fa_le, i0]; omega) 7 0 (T_parts (X_now X)) (by omega) (by omega) (fun i => by rw [if_neg (by omega)])
  have es : f_X2_shareFrom (X_now X) (nI S) = (nI a / f_X4_size (M_isIn M), f_X2_handOut (T_parts' (X_now X) v1) (nI a) (nI S)) := by
    unfold f_X2_shareFrom
    rw [eI, po_eq hR, ea, eh, ← nI_0]
    exact q1
  have hv1 : ∀ i, i < N → v1 i = if f_X4_isOf (M_isIn M) (nI i) = 0 then M_parts M i else (0 : Int32) := by
    intro i hi
    rw [q2 i]
    by_cases d : f_X4_isOf (M_isIn M) (nI i) = 0
    · rw [if_pos d, if_neg (fun q => q.2 d), (hR.1.2.2.1 i (by omega)).2.1]
    · rw [if_neg d, if_pos ⟨hi, d⟩]
  have hv0 : ∀ i, i < N → 0 ≤ (v1 i).toInt ∧ (v1 i).toInt ≤ 300 := by
    intro i hi
    have h9 := hR.pq i (by omega)
    rw [hv1 i hi]
    split
    · exact ⟨h9.2.1, h9.2.2⟩
    · exact ⟨by decide, by decide⟩
  obtain ⟨v', r1, r2, r3⟩ := ho_eq (T := T_parts' (X_now X) v1) (N := N) (S := S) (a := a) (s := M_isIn M) h6 eT hS (by omega) eI hs hz hv0
  have hsum := pz_L hR v1 h6 eN hN hv1 7 0 (0 : Int32) (by omega) (by show (0 : Int) = 0 - 0; rfl) (by omega)
  rw [nI_0] at hsum
  have hsum2 : (a : Int) = sumP (M_parts M) N - sumP v1 N := by rw [← hsum, a2]; rfl
  have r3' : sumP v' N = sumP v1 N + a := r3
  obtain ⟨sh', Q, d1, d2⟩ := dd_2 (M := M) h6 eN hS (show a ≤ 300 by omega) hs hz ea 7 0 (M_shared M) (by omega) (by omega) (fun i hi => absurd hi (Nat.not_lt_zero _))
  rw [nI_0] at d1
  have ed : f_X4_doDay M (nI S) = M_parts' (M_shared' M sh') Q := d1
  have esv : ∀ c : Nat, sv a (cj (M_isIn M) N S N) c ≤ 301 := by
    intro c
    have hd : a / cj (M_isIn M) N S N ≤ a := Nat.div_le_self _ _
    unfold sv
    split <;> omega
  have hQ : ∀ i, i < N → Q i = v' i ∧ 0 ≤ (Q i).toInt := by
    intro i hi
    have hq := esv (cj (M_isIn M) N S (jf N S i))
    have r2i : v' i = if i < N ∧ ¬ f_X4_isOf (M_isIn M) (nI i) = 0 then v1 i + nI (sv a (cj (M_isIn M) N S N) (cj (M_isIn M) N S (jf N S i))) else v1 i := r2 i
    rw [d2 i hi, r2i, hv1 i hi]
    unfold dq
    by_cases d : f_X4_isOf (M_isIn M) (nI i) = 0
    · rw [if_pos d, if_neg (fun q => q.2 d), if_pos d]
      exact ⟨rfl, (hR.pq i (by omega)).2.1⟩
    · rw [if_neg d, if_pos ⟨hi, d⟩, if_neg d, Int32.zero_add]
      exact ⟨rfl, by rw [nI_toInt (by omega)]; exact Int.natCast_nonneg _⟩
  rw [es, ed]
  refine ⟨by rw [ea], ?_, ?_⟩
  · show 0 ≤ (nI a / f_X4_size (M_isIn M)).toInt
    have hd : a / cj (M_isIn M) N S N ≤ a := Nat.div_le_self _ _
    rw [← e1, pk_div (by omega) hh (by omega), nI_toInt (by omega)]
    exact Int.natCast_nonneg _
  · show Rel (X_now' X (f_X2_handOut (T_parts' (X_now X) v1) (nI a) (nI S))) _
    rw [r1]
    have hR2 : Rel X (M_shared' M sh') := hR.cong (w := M_shared' M sh') rfl rfl rfl (fun _ _ => rfl)
    refine hR2.parts2 (P := v') (Q := Q) (fun i hi => ?_) ?_
    · have hi2 : (i : Int) < (M_people M).toInt := hi
      exact hQ i (by omega)
    · show (M_tin M).toInt + sumP Q (M_people M).toInt.toNat ≤ 283
      have hb := hR.1.2.2.2
      rw [show (M_people M).toInt.toNat = N by omega] at hb ⊢
      rw [sumP_c Q v' N (fun i hi => (hQ i hi).1), r3']
      omega
theorem rel_day {X : XS} {M : MS} (hR : Rel X M) (x1 : Int32) : (f_X3_day X x1).1 = (f_X4_day M x1).1 ∧ Rel (f_X3_day X x1).2 (f_X4_day M x1).2 := by
  unfold f_X3_day f_X4_day f_X3_act
  rw [rel_has hR, acts_0, ← hR.1.1.2.1]
  by_cases c1 : f_X4_isPerson M x1 = 0
  · simp only [if_pos c1]
    rw [if_pos (by decide)]
    exact ⟨rfl, hR⟩
  · simp only [if_neg c1]
    by_cases c2 : M_isIn M = 0
    · simp only [if_pos c2]
      rw [if_pos (by decide)]
      exact ⟨rfl, hR⟩
    · simp only [if_neg c2]
      obtain ⟨h1, h2, h3⟩ := act_day hR (mi_r c1) c2
      rw [if_neg (by rw [fa_lt, i0]; omega)]
      refine ⟨h1, ?_⟩
      have h4 := h3.2.2.1.1
      show Rel (X_daysGone' _ (X_daysGone (X_now' X (f_X2_shareFrom (X_now X) x1).2) + (1 : Int32))) _
      rw [← h4]
      exact h3.days _
