/-! gatherings -/
def sumZ (f : Nat → Int) : Nat → Int
  | 0 => 0
  | n + 1 => sumZ f n + f n
theorem sz_b (f : Nat → Int) (B : Int) : ∀ n : Nat, (∀ i, i < n → 0 ≤ f i ∧ f i ≤ B) → 0 ≤ sumZ f n ∧ sumZ f n ≤ B * n := by
  intro n
  induction n with
  | zero => intro _; exact ⟨Int.le_refl _, by show (0 : Int) ≤ B * ((0 : Nat) : Int); rw [Int.natCast_zero, Int.mul_zero]; exact Int.le_refl _⟩
  | succ n ih =>
    intro h
    have h1 := ih (fun i hi => h i (by omega))
    have h2 := h n (by omega)
    have e : B * ((n + 1 : Nat) : Int) = B * n + B := by rw [Int.natCast_add, Int.mul_add]; show B * n + B * 1 = _; rw [Int.mul_one]
    show 0 ≤ sumZ f n + f n ∧ sumZ f n + f n ≤ B * ((n + 1 : Nat) : Int)
    rw [e]
    omega
theorem sz_c (f g : Nat → Int) : ∀ n : Nat, (∀ i, i < n → f i = g i) → sumZ f n = sumZ g n := by
  intro n
  induction n with
  | zero => intro _; rfl
  | succ n ih =>
    intro h
    show sumZ f n + f n = sumZ g n + g n
    rw [ih (fun i hi => h i (by omega)), h n (by omega)]
theorem sz_a (f g h : Nat → Int) : ∀ n : Nat, (∀ i, i < n → h i = f i + g i) → sumZ h n = sumZ f n + sumZ g n := by
  intro n
  induction n with
  | zero => intro _; rfl
  | succ n ih =>
    intro e
    show sumZ h n + h n = (sumZ f n + f n) + (sumZ g n + g n)
    rw [ih (fun i hi => e i (by omega)), e n (by omega)]
    omega
theorem sz_1 (f : Nat → Int) : ∀ n : Nat, (∀ i, i < n → f i = 0 ∨ f i = 1) → 0 ≤ sumZ f n ∧ (0 < sumZ f n → ∃ i, i < n ∧ f i = 1) ∧ (sumZ f n ≤ 0 → ∀ i, i < n → f i = 0) := by
  intro n
  induction n with
  | zero => intro _; exact ⟨Int.le_refl _, fun h => absurd h (by show ¬ (0 : Int) < 0; omega), fun _ i hi => absurd hi (Nat.not_lt_zero _)⟩
  | succ n ih =>
    intro h
    have h1 := ih (fun i hi => h i (by omega))
    have h2 := h n (by omega)
    show 0 ≤ sumZ f n + f n ∧ (0 < sumZ f n + f n → _) ∧ (sumZ f n + f n ≤ 0 → _)
    refine ⟨by omega, fun g => ?_, fun g i hi => ?_⟩
    · by_cases c : 0 < sumZ f n
      · obtain ⟨i, a, b⟩ := h1.2.1 c
        exact ⟨i, by omega, b⟩
      · exact ⟨n, by omega, by omega⟩
    · by_cases c : i = n
      · rw [c]; omega
      · exact h1.2.2 (by omega) i (by omega)
def gf (M : MS) (q n i : Nat) : Int := if i = q then 0 else (if f_X4_isOf (M_isIn M) (nI i) = 0 then 0 else (if (n : Int) < (M_parts M i).toInt then (n : Int) else (M_parts M i).toInt))
def ge (M : MS) (q : Nat) (v : Nat → Int32) (i : Nat) : Int := if i = q then 0 else (if f_X4_isOf (M_isIn M) (nI i) = 0 then 0 else (if (v i).toInt ≤ 0 then 0 else 1))
theorem ge01 (M : MS) (q : Nat) (v : Nat → Int32) (i : Nat) : ge M q v i = 0 ∨ ge M q v i = 1 := by
  unfold ge
  split
  · exact Or.inl rfl
  · split
    · exact Or.inl rfl
    · split
      · exact Or.inl rfl
      · exact Or.inr rfl
theorem nI_p {x : Int32} {N : Nat} (h : x = nI N) (hN : N ≤ 6) (j : Nat) (hj : j ≤ 6) : (x ≤ nI j) ↔ N ≤ j := by
  rw [h]; exact nI_leI (by omega) (by omega)
theorem Rel.N {X : XS} {M : MS} (hR : Rel X M) : ∃ N : Nat, N ≤ 6 ∧ M_people M = nI N ∧ (M_people M).toInt = N := by
  have h6 := hR.mn
  obtain ⟨N, a, b, c⟩ := nn_I hR.so.1.1
  exact ⟨N, by omega, b, c.symm⟩
theorem gf_b {X : XS} {M : MS} (hR : Rel X M) {N : Nat} (hN : (M_people M).toInt = N) (q n : Nat) : ∀ i, i < N → 0 ≤ gf M q n i ∧ gf M q n i ≤ 283 := by
  intro i hi
  have hb := hR.bnd (i := i) (by omega)
  have ht := hR.tin
  unfold gf
  split
  · omega
  · split
    · omega
    · split <;> omega
theorem bg_L {X : XS} {M : MS} (hR : Rel X M) {N q n : Nat} (h6 : N ≤ 6) (eN : M_people M = nI N) (hN : (M_people M).toInt = N) (hq : q < N) (hn : n ≤ 1000) : ∀ (k : Nat) (a : Int32) (j : Nat), j ≤ N → a.toInt = (M_parts M q).toInt + sumZ (gf M q n) j → N - j < k → (fL_X2_partsBehindGatherings_10 (X_now X) (nI q) (nI n) k a (nI j)).toInt = (M_parts M q).toInt + sumZ (gf M q n) N := by
  intro k
  induction k with
  | zero => intro a j _ _ h; exact absurd h (Nat.not_lt_zero _)
  | succ k ih =>
    intro a j hj ha hk
    have hbq := hR.bnd (i := q) (by omega)
    have ht := hR.tin
    have hs := sz_b (gf M q n) 283 j (fun i hi => gf_b hR hN q n i (by omega))
    rw [fL_X2_partsBehindGatherings_10, ← hR.1.1.1, eN]
    unfold f_X2_isIn
    rw [mem_eq, ← hR.1.1.2.1, nI_1]
    by_cases c : nI N ≤ nI j
    · rw [if_pos c]
      have c' := (nI_leI (by omega) (by omega)).mp c
      rw [show N = j by omega]; exact ha
    · rw [if_neg c]
      have c' : j < N := by
        rcases Nat.lt_or_ge j N with h | h
        · exact h
        · exact absurd ((nI_leI (by omega) (by omega)).mpr h) c
      have e1 : sumZ (gf M q n) (j + 1) = sumZ (gf M q n) j + gf M q n j := rfl
      have hb := hR.bnd (i := j) (by omega)
      by_cases c1 : nI j = nI q
      · have c2 : j = q := (nI_eq (by omega) (by omega)).mp c1
        rw [if_pos c1, Int32.add_zero]
        exact ih _ _ (by omega) (by rw [e1, show gf M q n j = 0 by unfold gf; rw [if_pos c2], Int.add_zero]; exact ha) (by omega)
      · have c2 : ¬ j = q := fun h => c1 (by rw [h])
        rw [if_neg c1]
        by_cases c3 : f_X4_isOf (M_isIn M) (nI j) = 0
        · rw [if_pos c3, Int32.add_zero]
          exact ih _ _ (by omega) (by rw [e1, show gf M q n j = 0 by unfold gf; rw [if_neg c2, if_pos c3], Int.add_zero]; exact ha) (by omega)
        · rw [if_neg c3, nI_clamp (by omega), ← (hR.1.2.2.1 j (by omega)).2.1]
          have e2 : gf M q n j = if (n : Int) < (M_parts M j).toInt then (n : Int) else (M_parts M j).toInt := by unfold gf; rw [if_neg c2, if_neg c3]
          have e3 : (if nI n < M_parts M j then nI n else M_parts M j).toInt = gf M q n j := by
            rw [e2]
            by_cases c4 : nI n < M_parts M j
            · rw [if_pos c4]
              rw [fa_lt, nI_toInt (by omega)] at c4
              rw [if_pos c4, nI_toInt (by omega)]
            · rw [if_neg c4]
              rw [fa_lt, nI_toInt (by omega)] at c4
              rw [if_neg c4]
          have hg := gf_b hR hN q n j c'
          refine ih _ _ (by omega) ?_ (by omega)
          rw [fb_addI] <;> rw [e3] <;> omega
/-- what one has behind n gatherings -/
def gB (M : MS) (N q n : Nat) : Int := (M_parts M q).toInt + sumZ (gf M q n) N
theorem bg_eq {X : XS} {M : MS} (hR : Rel X M) {N q n : Nat} (h6 : N ≤ 6) (eN : M_people M = nI N) (hN : (M_people M).toInt = N) (hq : q < N) (hn : n ≤ 1000) : (f_X2_partsBehindGatherings (X_now X) (nI q) (nI n)).toInt = gB M N q n := by
  unfold f_X2_partsBehindGatherings
  rw [nI_clamp (by omega), ← (hR.1.2.2.1 q (by omega)).2.1]
  exact bg_L hR h6 eN hN hq hn 7 _ 0 (by omega) (by show _ = _ + (0 : Int); omega) (by omega)
theorem gd_L {M : MS} {N q : Nat} (h6 : N ≤ 6) (eN : M_people M = nI N) (hq : q < N) (v0 : Nat → Int32) : ∀ (k : Nat) (x2 : Int32) (j : Nat) (v : Nat → Int32), j ≤ N → x2.toInt = sumZ (ge M q v0) j → N - j < k → (∀ i, v i = if i < j ∧ ge M q v0 i = 1 then v0 i - (1 : Int32) else v0 i) → ∃ (g : Int32) (v' : Nat → Int32), fL_X4_doGather_4 M (nI q) k x2 (nI j) v = (g, M_parts' M v') ∧ g.toInt = sumZ (ge M q v0) N ∧ v' q = v0 q + g ∧ ∀ i, i ≠ q → v' i = if i < N ∧ ge M q v0 i = 1 then v0 i - (1 : Int32) else v0 i := by
  intro k
  induction k with
  | zero => intro x2 j v _ _ h; exact absurd h (Nat.not_lt_zero _)
  | succ k ih =>
    intro x2 j v hj hx hk hv
    have hs := sz_b (ge M q v0) 1 j (fun i hi => by have := ge01 M q v0 i; omega)
    have hqq : ¬ ge M q v0 q = 1 := by unfold ge; rw [if_pos rfl]; decide
    rw [fL_X4_doGather_4, eN, nI_1]
    by_cases c : nI N ≤ nI j
    · rw [if_pos c]
      have c' := (nI_leI (by omega) (by omega)).mp c
      have ej : N = j := by omega
      refine ⟨x2, _, rfl, by rw [ej]; exact hx, ?_, fun i hi => ?_⟩
      · rw [nI_clamp (by omega), pk_us, hv q, if_neg (fun h => hqq h.2)]
      · rw [nI_clamp (by omega), pk_un hi, hv i, ej]
    · rw [if_neg c]
      have c' : j < N := by
        rcases Nat.lt_or_ge j N with h | h
        · exact h
        · exact absurd ((nI_leI (by omega) (by omega)).mpr h) c
      have e1 : sumZ (ge M q v0) (j + 1) = sumZ (ge M q v0) j + ge M q v0 j := rfl
      have skip : ge M q v0 j = 0 → ∃ (g : Int32) (v' : Nat → Int32), fL_X4_doGather_4 M (nI q) k x2 (nI (j + 1)) v = (g, M_parts' M v') ∧ g.toInt = sumZ (ge M q v0) N ∧ v' q = v0 q + g ∧ ∀ i, i ≠ q → v' i = if i < N ∧ ge M q v0 i = 1 then v0 i - (1 : Int32) else v0 i := by
        intro h
        refine ih _ _ _ (by omega) (by rw [e1, h, Int.add_zero]; exact hx) (by omega) (fun i => ?_)
        rw [hv i]
        by_cases e : i = j
        · rw [e, if_neg (by omega), if_neg (by omega)]
        · by_cases d : i < j ∧ ge M q v0 i = 1
          · rw [if_pos d, if_pos (by omega)]
          · rw [if_neg d, if_neg (by omega)]
      by_cases c1 : nI j = nI q
      · have c2 : j = q := (nI_eq (by omega) (by omega)).mp c1
        rw [if_pos c1]
        exact skip (by unfold ge; rw [if_pos c2])
      · have c2 : ¬ j = q := fun h => c1 (by rw [h])
        rw [if_neg c1]
        by_cases c3 : f_X4_isOf (M_isIn M) (nI j) = 0
        · rw [if_pos c3]
          exact skip (by unfold ge; rw [if_neg c2, if_pos c3])
        · rw [if_neg c3, nI_clamp (by omega), show v j = v0 j by rw [hv j, if_neg (by omega)]]
          have e2 : ge M q v0 j = if (v0 j).toInt ≤ 0 then 0 else 1 := by unfold ge; rw [if_neg c2, if_neg c3]
          by_cases c4 : v0 j ≤ 0
          · rw [if_pos c4]
            rw [fa_le, i0] at c4
            exact skip (by rw [e2, if_pos c4])
          · rw [if_neg c4]
            rw [fa_le, i0] at c4
            rw [if_neg c4] at e2
            clear skip
            refine ih _ _ _ (by omega) ?_ (by omega) (fun i => ?_)
            · rw [e1, e2]
              rw [fb_addI] <;> rw [i1] <;> omega
            · by_cases e : i = j
              · rw [e, pk_us, if_pos ⟨by omega, e2⟩]
              · rw [pk_un e, hv i]
                by_cases d : i < j ∧ ge M q v0 i = 1
                · rw [if_pos d, if_pos (by omega)]
                · rw [if_neg d, if_neg (by omega)]
theorem gd_eq {M : MS} {N q : Nat} (h6 : N ≤ 6) (eN : M_people M = nI N) (hq : q < N) : ∃ (g : Int32) (v' : Nat → Int32), f_X4_doGather M (nI q) = (g, M_parts' M v') ∧ g.toInt = sumZ (ge M q (M_parts M)) N ∧ v' q = M_parts M q + g ∧ ∀ i, i ≠ q → v' i = if i < N ∧ ge M q (M_parts M) i = 1 then M_parts M i - (1 : Int32) else M_parts M i :=
  gd_L h6 eN hq (M_parts M) 7 0 0 (M_parts M) (by omega) rfl (by omega) (fun i => by rw [if_neg (by omega)])
