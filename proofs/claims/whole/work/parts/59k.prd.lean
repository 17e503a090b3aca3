/-! what is kept and put back -/
theorem kp_kept (M : MS) : ∀ (k : Nat) (x : Int32) (v : MS), M_keptTin (fL_X4_keep_18 M k x v) = M_keptTin v ∧ M_keptIn (fL_X4_keep_18 M k x v) = M_keptIn v := by
  intro k
  induction k with
  | zero => intro x v; exact ⟨rfl, rfl⟩
  | succ k ih =>
    intro x v
    rw [fL_X4_keep_18]
    split
    · exact ⟨rfl, rfl⟩
    · exact ih _ (M_keptParts' v _)
theorem kp_parts (M : MS) {N : Nat} (h6 : N ≤ 6) : ∀ (k : Nat) (j : Nat) (v : MS), M_people v = nI N → j ≤ N → N - j < k → ∀ i : Nat, M_keptParts (fL_X4_keep_18 M k (nI j) v) i = if j ≤ i ∧ i < N then M_parts v i else M_keptParts v i := by
  intro k
  induction k with
  | zero => intro j v _ _ h; exact absurd h (Nat.not_lt_zero _)
  | succ k ih =>
    intro j v eN hj hk i
    rw [fL_X4_keep_18, eN, nI_1, nI_clamp (by omega)]
    by_cases c : nI N ≤ nI j
    · have c' := (nI_leI (by omega) (by omega)).mp c
      rw [if_pos c, if_neg (by omega)]
    · have c' : j < N := by
        rcases Nat.lt_or_ge j N with h | h
        · exact h
        · exact absurd ((nI_leI (by omega) (by omega)).mpr h) c
      rw [if_neg c, ih (j + 1) (M_keptParts' v (upd (M_keptParts v) j ((M_parts v) j))) eN (by omega) (by omega) i]
      show (if j + 1 ≤ i ∧ i < N then M_parts v i else upd (M_keptParts v) j ((M_parts v) j) i) = _
      by_cases e : i = j
      · rw [e, if_neg (by omega), if_pos (by omega), pk_us]
      · rw [pk_un e]
        by_cases d : j ≤ i ∧ i < N
        · rw [if_pos d, if_pos (by omega)]
        · rw [if_neg d, if_neg (by omega)]
theorem pt_L (M : MS) {N : Nat} (h6 : N ≤ 6) : ∀ (k : Nat) (j : Nat) (v : MS), M_people v = nI N → j ≤ N → N - j < k → ∃ Q : Nat → Int32, fL_X4_putBack_18 M k (nI j) v = M_parts' v Q ∧ ∀ i : Nat, Q i = if j ≤ i ∧ i < N then M_keptParts v i else M_parts v i := by
  intro k
  induction k with
  | zero => intro j v _ _ h; exact absurd h (Nat.not_lt_zero _)
  | succ k ih =>
    intro j v eN hj hk
    rw [fL_X4_putBack_18, eN, nI_1, nI_clamp (by omega)]
    by_cases c : nI N ≤ nI j
    · have c' := (nI_leI (by omega) (by omega)).mp c
      rw [if_pos c]
      exact ⟨M_parts v, rfl, fun i => by rw [if_neg (by omega)]⟩
    · have c' : j < N := by
        rcases Nat.lt_or_ge j N with h | h
        · exact h
        · exact absurd ((nI_leI (by omega) (by omega)).mpr h) c
      rw [if_neg c]
      obtain ⟨Q, e, h⟩ := ih (j + 1) (M_parts' v (upd (M_parts v) j ((M_keptParts v) j))) eN (by omega) (by omega)
      refine ⟨Q, e, fun i => ?_⟩
      rw [h i]
      show (if j + 1 ≤ i ∧ i < N then M_keptParts v i else upd (M_parts v) j ((M_keptParts v) j) i) = _
      by_cases e : i = j
      · rw [e, if_neg (by omega), if_pos (by omega), pk_us]
      · rw [pk_un e]
        by_cases d : j ≤ i ∧ i < N
        · rw [if_pos d, if_pos (by omega)]
        · rw [if_neg d, if_neg (by omega)]
theorem pt_eq {w : MS} {N : Nat} (h6 : N ≤ 6) (eN : M_people w = nI N) : ∃ Q : Nat → Int32, f_X4_putBack w = M_parts' (M_isIn' (M_tin' w (M_keptTin w)) (M_keptIn w)) Q ∧ ∀ i : Nat, i < N → Q i = M_keptParts w i := by
  obtain ⟨Q, e, h⟩ := pt_L w h6 7 0 (M_isIn' (M_tin' w (M_keptTin w)) (M_keptIn w)) eN (by omega) (by omega)
  exact ⟨Q, e, fun i hi => by rw [h i, if_pos (by omega)]⟩
theorem sumP_c (P Q : Nat → Int32) : ∀ n : Nat, (∀ i, i < n → P i = Q i) → sumP P n = sumP Q n := by
  intro n
  induction n with
  | zero => intro _; rfl
  | succ n ih =>
    intro h
    show sumP P n + (P n).toInt = sumP Q n + (Q n).toInt
    rw [ih (fun i hi => h i (by omega)), h n (by omega)]
def rlv (M : MS) := (M_people M, M_cells M, M_thick M, M_kind M, M_sorts M, M_sheetLong M, M_fault M, M_trace M, M_days M, M_readings M, M_readWho M, M_readParts M, M_readSaid M)
theorem rl_fr {M w : MS} (h : fr M w) : rlv w = rlv M := congrArg (fun t => (t.1, t.2.1, t.2.2.1, t.2.2.2.1, t.2.2.2.2.1, t.2.2.2.2.2.1, t.2.2.2.2.2.2.1, t.2.2.2.2.2.2.2.1, t.2.2.2.2.2.2.2.2.1, t.2.2.2.2.2.2.2.2.2.1, t.2.2.2.2.2.2.2.2.2.2.1, t.2.2.2.2.2.2.2.2.2.2.2.1, t.2.2.2.2.2.2.2.2.2.2.2.2.1)) h
theorem rl_kf {M w : MS} (h : kf M w) : rlv w = rlv M := congrArg (fun t => (t.1, t.2.2.1, t.2.2.2.1, t.2.2.2.2.2.2.1, t.2.2.2.2.2.2.2.1, t.2.2.2.2.2.2.2.2.1, t.2.2.2.2.2.2.2.2.2.1, t.2.2.2.2.2.2.2.2.2.2.1, t.2.2.2.2.2.2.2.2.2.2.2.1, t.2.2.2.2.2.2.2.2.2.2.2.2.1, t.2.2.2.2.2.2.2.2.2.2.2.2.2.1, t.2.2.2.2.2.2.2.2.2.2.2.2.2.2.1, t.2.2.2.2.2.2.2.2.2.2.2.2.2.2.2)) h
/-- the relation looks at these alone -/
theorem Rel.cong {X : XS} {M w : MS} (h : Rel X M) (e : rlv w = rlv M) (eI : M_isIn w = M_isIn M) (eT : M_tin w = M_tin M) (eP : ∀ i : Nat, (i : Int) < (M_people M).toInt → M_parts w i = M_parts M i) : Rel X w := by
  have e1 : M_people w = M_people M := congrArg (fun t => t.1) e
  have e2 : M_cells w = M_cells M := congrArg (fun t => t.2.1) e
  have e3 : M_thick w = M_thick M := congrArg (fun t => t.2.2.1) e
  have e4 : M_kind w = M_kind M := congrArg (fun t => t.2.2.2.1) e
  have e5 : M_sorts w = M_sorts M := congrArg (fun t => t.2.2.2.2.1) e
  have e6 : M_sheetLong w = M_sheetLong M := congrArg (fun t => t.2.2.2.2.2.1) e
  have e7 : M_fault w = M_fault M := congrArg (fun t => t.2.2.2.2.2.2.1) e
  have e8 : M_trace w = M_trace M := congrArg (fun t => t.2.2.2.2.2.2.2.1) e
  have e9 : M_days w = M_days M := congrArg (fun t => t.2.2.2.2.2.2.2.2.1) e
  have e10 : M_readings w = M_readings M := congrArg (fun t => t.2.2.2.2.2.2.2.2.2.1) e
  have e11 : M_readWho w = M_readWho M := congrArg (fun t => t.2.2.2.2.2.2.2.2.2.2.1) e
  have e12 : M_readParts w = M_readParts M := congrArg (fun t => t.2.2.2.2.2.2.2.2.2.2.2.1) e
  have e13 : M_readSaid w = M_readSaid M := congrArg (fun t => t.2.2.2.2.2.2.2.2.2.2.2.2) e
  have eS : sumP (M_parts w) (M_people M).toInt.toNat = sumP (M_parts M) (M_people M).toInt.toNat := sumP_c _ _ _ (fun i hi => eP i (by omega))
  obtain ⟨⟨a1, a2, a3, a4⟩, b, c, d⟩ := h
  refine ⟨⟨?_, ?_, ?_, ?_⟩, ?_, ?_, ?_⟩
  · rw [e1, eI, eT]; exact a1
  · rw [e1, eI]; exact a2
  · rw [e1]
    intro i hi
    have := a3 i hi
    unfold RelP at this ⊢
    rw [e3, e4, eP i hi]
    exact this
  · rw [e1, eT, eS]; exact a4
  · unfold RelR at b ⊢
    rw [e10, e11, e12, e13, e1]; exact b
  · rw [e7, e8, e9]; exact c
  · rw [e5, e6, e2]; exact d
theorem kp_all {X : XS} {M : MS} (hR : Rel X M) {N : Nat} (h6 : N ≤ 6) (eN : M_people M = nI N) : M_keptTin (f_X4_keep M) = M_tin M ∧ M_keptIn (f_X4_keep M) = M_isIn M ∧ ∀ i : Nat, i < N → M_keptParts (f_X4_keep M) i = M_parts M i := by
  have h := kp_kept M 7 (0 : Int32) (M_keptIn' (M_keptTin' M (M_tin M)) (M_isIn M))
  refine ⟨h.1, h.2, fun i hi => ?_⟩
  have h2 := kp_parts M h6 7 0 (M_keptIn' (M_keptTin' M (M_tin M)) (M_isIn M)) eN (by omega) (by omega) i
  rw [if_pos (by omega)] at h2
  exact h2
theorem fr_kept {M w : MS} (h : fr M w) : M_keptParts w = M_keptParts M ∧ M_keptTin w = M_keptTin M ∧ M_keptIn w = M_keptIn M := ⟨congrArg (fun t => t.2.2.2.2.2.2.2.2.2.2.2.2.2.1) h, congrArg (fun t => t.2.2.2.2.2.2.2.2.2.2.2.2.2.2.1) h, congrArg (fun t => t.2.2.2.2.2.2.2.2.2.2.2.2.2.2.2) h⟩
theorem pb_rel {X : XS} {M w : MS} (hR : Rel X M) (h : fr (f_X4_keep M) w) : Rel X (f_X4_putBack w) := by
  obtain ⟨N, h6, eN, hN⟩ := hR.N
  have hk := kp_all hR h6 eN
  have hw := fr_kept h
  have e1 : rlv w = rlv M := Eq.trans (rl_fr h) (rl_kf (kf_keep M))
  have e2 : M_people w = nI N := by rw [← eN]; exact congrArg (fun t => t.1) e1
  obtain ⟨Q, e3, e4⟩ := pt_eq (w := w) h6 e2
  rw [e3]
  refine hR.cong (w := M_parts' (M_isIn' (M_tin' w (M_keptTin w)) (M_keptIn w)) Q) e1 ?_ ?_ (fun i hi => ?_)
  · show M_keptIn w = _
    rw [hw.2.2, hk.2.1]
  · show M_keptTin w = _
    rw [hw.2.1, hk.1]
  · show Q i = _
    rw [e4 i (by omega), hw.1, hk.2.2 i (by omega)]
/-! the loops of gatherings -/
def gS (M : MS) (N q n : Nat) (v : MS) : Prop := fr (f_X4_keep M) v ∧ M_isIn v = M_isIn M ∧ (∀ i : Nat, i < N → i ≠ q → (M_parts v i).toInt = (if f_X4_isOf (M_isIn M) (nI i) = 0 then (M_parts M i).toInt else (if (n : Int) < (M_parts M i).toInt then (M_parts M i).toInt - n else 0))) ∧ (M_parts v q).toInt = gB M N q n
/-- nobody has more to give -/
def gN (M : MS) (N q n : Nat) : Prop := ∀ i : Nat, i < N → i ≠ q → ¬ f_X4_isOf (M_isIn M) (nI i) = 0 → (M_parts M i).toInt ≤ n
theorem gB_st {M : MS} {N q n : Nat} (h : gN M N q n) : gB M N q (n + 1) = gB M N q n := by
  unfold gB
  rw [sz_c (gf M q (n + 1)) (gf M q n) N (fun i hi => ?_)]
  unfold gf
  by_cases c1 : i = q
  · rw [if_pos c1, if_pos c1]
  · rw [if_neg c1, if_neg c1]
    by_cases c2 : f_X4_isOf (M_isIn M) (nI i) = 0
    · rw [if_pos c2, if_pos c2]
    · rw [if_neg c2, if_neg c2]
      have := h i hi c1 c2
      rw [if_neg (by omega), if_neg (by omega)]
theorem xg_no {X : XS} {M : MS} (hR : Rel X M) {N q : Nat} (h6 : N ≤ 6) (eN : M_people M = nI N) (hN : (M_people M).toInt = N) (hq : q < N) (v : Int32) : ∀ (k n : Nat), n ≤ 301 → 302 ≤ k + n → gN M N q n → gB M N q n < v.toInt → fL_X3_gatherings_29 X (nI q) v k (nI n) = (-9 : Int32) := by
  intro k
  induction k with
  | zero => intro n h1 h2; exact absurd h2 (by omega)
  | succ k ih =>
    intro n h1 h2 h3 h4
    rw [fL_X3_gatherings_29, nI_1]
    by_cases c : (300 : Int32) < nI n
    · rw [if_pos c]
    · rw [if_neg c]
      rw [fa_lt, i300, nI_toInt (by omega)] at c
      rw [if_pos (by rw [fa_lt, bg_eq hR h6 eN hN hq (by omega)]; exact h4)]
      exact ih _ (by omega) (by omega) (fun i a b d => by have := h3 i a b d; omega) (by rw [gB_st h3]; exact h4)
theorem gd_st {X : XS} {M v : MS} (hR : Rel X M) {N q n : Nat} (h6 : N ≤ 6) (eN : M_people M = nI N) (hN : (M_people M).toInt = N) (hq : q < N) (hn : n ≤ 1000) (h : gS M N q n v) : gS M N q (n + 1) (f_X4_doGather v (nI q)).2 ∧ gB M N q (n + 1) = gB M N q n + (f_X4_doGather v (nI q)).1.toInt ∧ 0 ≤ (f_X4_doGather v (nI q)).1.toInt ∧ (0 < (f_X4_doGather v (nI q)).1.toInt → n < 283) ∧ ((f_X4_doGather v (nI q)).1.toInt ≤ 0 → gN M N q n) := by
  obtain ⟨h1, h2, h3, h4⟩ := h
  have e0 : M_people v = nI N := by rw [fr_people h1, kf_people (kf_keep M)]; exact eN
  obtain ⟨g, v', e1, e2, e3, e4⟩ := gd_eq (M := v) (N := N) (q := q) h6 e0 hq
  rw [e1]
  have eg : ∀ i, i < N → ge v q (M_parts v) i = if i = q then 0 else (if f_X4_isOf (M_isIn M) (nI i) = 0 then 0 else (if (n : Int) < (M_parts M i).toInt then 1 else 0)) := by
    intro i hi
    unfold ge
    rw [h2]
    by_cases c1 : i = q
    · rw [if_pos c1, if_pos c1]
    · rw [if_neg c1, if_neg c1]
      by_cases c2 : f_X4_isOf (M_isIn M) (nI i) = 0
      · rw [if_pos c2, if_pos c2]
      · rw [if_neg c2, if_neg c2, h3 i hi c1, if_neg c2]
        by_cases c3 : (n : Int) < (M_parts M i).toInt
        · rw [if_pos c3, if_neg (by omega), if_pos c3]
        · rw [if_neg c3, if_pos (by omega), if_neg c3]
  have s1 := sz_1 (ge v q (M_parts v)) N (fun i _ => ge01 _ _ _ i)
  have s2 := sz_b (ge v q (M_parts v)) 1 N (fun i _ => by have := ge01 v q (M_parts v) i; omega)
  have s3 := sz_b (gf M q n) 283 N (gf_b hR hN q n)
  have hbq := hR.bnd (i := q) (by omega)
  have ht := hR.tin
  have eB : gB M N q (n + 1) = gB M N q n + g.toInt := by
    unfold gB
    rw [sz_a (gf M q n) (ge v q (M_parts v)) (gf M q (n + 1)) N (fun i hi => ?_), e2]
    · omega
    · rw [eg i hi]
      unfold gf
      by_cases c1 : i = q
      · rw [if_pos c1, if_pos c1, if_pos c1]; rfl
      · rw [if_neg c1, if_neg c1, if_neg c1]
        by_cases c2 : f_X4_isOf (M_isIn M) (nI i) = 0
        · rw [if_pos c2, if_pos c2, if_pos c2]; rfl
        · rw [if_neg c2, if_neg c2, if_neg c2]
          by_cases c3 : (n : Int) < (M_parts M i).toInt
          · rw [if_pos c3, if_pos c3]
            by_cases c4 : ((n + 1 : Nat) : Int) < (M_parts M i).toInt
            · rw [if_pos c4]; omega
            · rw [if_neg c4]; omega
          · rw [if_neg c3, if_neg c3, if_neg (by omega)]; omega
  refine ⟨⟨?_, h2, fun i hi c1 => ?_, ?_⟩, eB, (show 0 ≤ g.toInt by rw [e2]; exact s2.1), fun hg => ?_, fun hg i hi c1 c2 => ?_⟩
  · exact h1
  · show (v' i).toInt = _
    rw [e4 i c1]
    have hgi := eg i hi
    rw [if_neg c1] at hgi
    have h3i := h3 i hi c1
    have hb := hR.bnd (i := i) (by omega)
    by_cases c2 : f_X4_isOf (M_isIn M) (nI i) = 0
    · rw [if_pos c2] at hgi h3i ⊢
      rw [if_neg (by omega)]; exact h3i
    · rw [if_neg c2] at hgi h3i ⊢
      by_cases c3 : (n : Int) < (M_parts M i).toInt
      · rw [if_pos c3] at hgi h3i
        rw [if_pos ⟨hi, hgi⟩]
        have e9 : (M_parts v i - (1 : Int32)).toInt = (M_parts v i).toInt - 1 := by rw [fb_subI] <;> rw [i1] <;> omega
        rw [e9]
        by_cases c4 : ((n + 1 : Nat) : Int) < (M_parts M i).toInt
        · rw [if_pos c4]; omega
        · rw [if_neg c4]; omega
      · rw [if_neg c3] at hgi h3i
        rw [if_neg (by omega), if_neg (by omega)]; exact h3i
  · show (v' q).toInt = _
    rw [e3, eB]
    unfold gB at h4 ⊢
    rw [fb_addI] <;> rw [h4] <;> omega
  · obtain ⟨i, hi, e9⟩ := s1.2.1 (by rw [← e2]; exact hg)
    rw [eg i hi] at e9
    by_cases c1 : i = q
    · rw [if_pos c1] at e9; omega
    · rw [if_neg c1] at e9
      by_cases c2 : f_X4_isOf (M_isIn M) (nI i) = 0
      · rw [if_pos c2] at e9; omega
      · rw [if_neg c2] at e9
        by_cases c3 : (n : Int) < (M_parts M i).toInt
        · have hb := hR.bnd (i := i) (by omega)
          omega
        · rw [if_neg c3] at e9; omega
  · have e9 := s1.2.2 (by rw [← e2]; exact hg) i hi
    rw [eg i hi, if_neg c1, if_neg c2] at e9
    by_cases c3 : (n : Int) < (M_parts M i).toInt
    · rw [if_pos c3] at e9; omega
    · omega
theorem ga_L {X : XS} {M : MS} (hR : Rel X M) {N q : Nat} (h6 : N ≤ 6) (eN : M_people M = nI N) (hN : (M_people M).toInt = N) (hq : q < N) (v : Int32) : ∀ (kM k n : Nat) (x4 : Int32) (w : MS), gS M N q n w → k + n = 302 → (0 < x4.toInt → n ≤ 283) → n ≤ 284 → (x4.toInt ≤ 0 → gN M N q n) → (v.toInt - gB M N q n).toNat * 2 + (if 0 < x4.toInt then 1 else 0) < kM → fL_X3_gatherings_29 X (nI q) v k (nI n) = (fL_X4_gatherings_33 M (nI q) v kM (nI n) x4 w).1 ∧ Rel X (fL_X4_gatherings_33 M (nI q) v kM (nI n) x4 w).2 := by
  intro kM
  induction kM with
  | zero => intro k n x4 w _ _ _ _ _ h; exact absurd h (Nat.not_lt_zero _)
  | succ kM ih =>
    intro k n x4 w hS hk hx hn hx2 hm
    have h4 : (M_parts w q).toInt = gB M N q n := hS.2.2.2
    rw [fL_X4_gatherings_33, nI_1, nI_clamp (by omega)]
    by_cases c1 : v ≤ M_parts w q
    · rw [if_pos c1]
      rw [fa_le, h4] at c1
      rw [if_neg (by rw [fa_lt, h4]; omega)]
      refine ⟨?_, pb_rel hR hS.1⟩
      obtain ⟨k, rfl⟩ : ∃ j, k = j + 1 := ⟨k - 1, by omega⟩
      rw [fL_X3_gatherings_29, if_neg (by rw [fa_lt, i300, nI_toInt (by omega)]; omega), if_neg (by rw [fa_lt, bg_eq hR h6 eN hN hq (by omega)]; omega)]
    · rw [if_neg c1]
      rw [fa_le, h4] at c1
      by_cases c2 : x4 ≤ 0
      · rw [if_pos c2, if_pos (by rw [fa_lt, h4]; omega)]
        rw [fa_le, i0] at c2
        exact ⟨xg_no hR h6 eN hN hq v k n (by omega) (by omega) (hx2 c2) (by omega), pb_rel hR hS.1⟩
      · rw [if_neg c2]
        rw [fa_le, i0] at c2
        have g := gd_st hR h6 eN hN hq (show n ≤ 1000 by omega) hS
        obtain ⟨k, rfl⟩ : ∃ j, k = j + 1 := ⟨k - 1, by omega⟩
        have hn' := hx (by omega)
        rw [fL_X3_gatherings_29, nI_1, if_neg (by rw [fa_lt, i300, nI_toInt (by omega)]; omega), if_pos (by rw [fa_lt, bg_eq hR h6 eN hN hq (by omega)]; omega)]
        rw [if_pos (by omega)] at hm
        refine ih k (n + 1) _ _ g.1 (by omega) (fun hg => by have := g.2.2.2.1 hg; omega) (by omega) (fun hg i a b d => by have := g.2.2.2.2 hg i a b d; omega) ?_
        have g2 := g.2.1
        have g3 := g.2.2.1
        split <;> omega
theorem rel_gatherings {X : XS} {M : MS} (hR : Rel X M) (x1 x2 : Int32) : (f_X3_gatherings X x1 x2) = (f_X4_gatherings M x1 x2).1 ∧ Rel X (f_X4_gatherings M x1 x2).2 := by
  unfold f_X3_gatherings f_X4_gatherings
  rw [rel_has hR, wi_ite, le_ite]
  by_cases c : f_X4_isPerson M x1 = 0
  · rw [if_pos c, if_pos c]; exact ⟨rfl, hR⟩
  · rw [if_neg c, if_neg c]
    by_cases c1 : x2 < 0
    · rw [if_pos c1, if_pos c1]; exact ⟨rfl, hR⟩
    · rw [if_neg c1, if_neg c1]
      by_cases c2 : (300 : Int32) < x2
      · rw [if_pos c2, if_pos c2]; exact ⟨rfl, hR⟩
      · rw [if_neg c2, if_neg c2]
        obtain ⟨N, h6, eN, hN⟩ := hR.N
        have hp := mi_r c
        obtain ⟨q, q1, rfl, q2⟩ := nn_I hp.1
        have hq : q < N := by omega
        have ek : M_parts (f_X4_keep M) = M_parts M := congrArg (fun t => t.2.2.2.2.2.1) (kf_keep M)
        have e0 : gB M N q 0 = (M_parts M q).toInt := by
          unfold gB
          rw [sz_c (gf M q 0) (fun _ => 0) N (fun i hi => ?_)]
          · have : ∀ n : Nat, sumZ (fun _ => 0) n = 0 := by
              intro n
              induction n with
              | zero => rfl
              | succ n ih => show sumZ (fun _ => 0) n + 0 = 0; rw [ih]; rfl
            rw [this]; omega
          · have hb := hR.bnd (i := i) (by omega)
            unfold gf
            split
            · rfl
            · split
              · rfl
              · split
                · rfl
                · show (M_parts M i).toInt = 0
                  omega
        refine ga_L hR h6 eN hN hq x2 _ 302 0 (1 : Int32) (f_X4_keep M) ⟨fr_refl _, kf_isIn (kf_keep M), fun i hi c3 => ?_, ?_⟩ rfl (fun _ => by omega) (by omega) (fun h => absurd h (by decide)) ?_
        · rw [ek]
          have hb := hR.bnd (i := i) (by omega)
          split
          · rfl
          · split <;> omega
        · rw [ek, e0]
        · rw [ek, e0, nI_clamp (by omega), if_pos (by decide)]; omega
