/-! a year that is told, on both sides -/
theorem nI_mul (a b : Nat) : nI a * nI b = nI (a * b) := (Int32.ofNat_mul a b).symm
theorem n_2m (a : Nat) : (2 : Int32) * nI a = nI (2 * a) := nI_mul 2 a
theorem n_60 (a : Nat) : (60 : Int32) * nI a = nI (60 * a) := nI_mul 60 a
/-- faults of a row, on both sides -/
theorem fo_eq {S : SH} {M : MS} {x1 x2 x3 x4 : Int32} {c : Nat → Int32} (h : RelS S (M_sorts M x1.toNatClampNeg) (M_sheetLong M x1.toNatClampNeg) c) : f_X1_faultOf S x2 x3 x4 = f_X4_against M x1 x2 x3 x4 := by
  unfold f_X1_faultOf f_X4_against
  rcases h.1 with ⟨h1, h2⟩ | ⟨h1, h2, h3, h4, h5⟩
  · rw [if_pos h1, if_pos h2, if_pos h2]
  · have h6 : ¬ S_held S = 0 := by rw [h1]; decide
    have h7 : ¬ M_sorts M x1.toNatClampNeg = (-9 : Int32) := by rw [h2]; exact lane_n9 h3
    rw [if_neg h6, if_neg h7, if_neg h7, ← h2, ← h4]
    by_cases c1 : M_sorts M x1.toNatClampNeg = x2
    · rw [if_pos c1, if_pos c1]
      by_cases c2 : 0 ≤ x4
      · rw [if_pos c2, if_pos c2, sp_ite, le_ite x4]
        by_cases c3 : x3 < 0
        · rw [if_pos c3, if_pos c3]
        · rw [if_neg c3, if_neg c3, if_neg (by rw [fa_lt, i0]; rw [fa_le, i0] at c2; omega)]
      · rw [if_neg c2, if_neg c2]
    · rw [if_neg c1, if_neg c1]
/-- the cells are there where no fault is -/
theorem fo_cells {S : SH} {M : MS} {x1 x2 x3 x4 : Int32} {c : Nat → Int32} (h : RelS S (M_sorts M x1.toNatClampNeg) (M_sheetLong M x1.toNatClampNeg) c) (h0 : f_X4_against M x1 x2 x3 x4 = 0) : ∀ i : Nat, i < 60 → S_cells S i = c i := by
  rcases h.1 with ⟨h1, h2⟩ | ⟨h1, h2, h3, h4, h5⟩
  · unfold f_X4_against at h0
    rw [if_pos h2, if_pos h2] at h0
    exact absurd h0 (by decide)
  · exact h5
theorem at_n (S : SH) {m : Nat} (h : m < 60) : f_X1_at S (nI m) = S_cells S m := by
  unfold f_X1_at
  rw [if_neg (nI_pos (by omega)), if_neg (by rw [fa_le, i60, nI_toInt (by omega)]; omega), nI_clamp (by omega)]
theorem bl_L2 {T O : TN} {N : Nat} (h6 : N ≤ 6) : ∀ (k j : Nat) (v : TN), T_count v = nI N → j ≤ N → N - j < k → (∀ i, i < j → T_kind v i = T_kind O i ∧ T_parts v i = T_parts O i ∧ T_thick v i = T_thick O i) → T_count (fL_X2_becomeLike_26 T O k (nI j) v) = nI N ∧ T_inside (fL_X2_becomeLike_26 T O k (nI j) v) = T_inside v ∧ T_tin (fL_X2_becomeLike_26 T O k (nI j) v) = T_tin v ∧ ∀ i, i < N → T_kind (fL_X2_becomeLike_26 T O k (nI j) v) i = T_kind O i ∧ T_parts (fL_X2_becomeLike_26 T O k (nI j) v) i = T_parts O i ∧ T_thick (fL_X2_becomeLike_26 T O k (nI j) v) i = T_thick O i := by
  intro k
  induction k with
  | zero => intro j v _ _ h; exact absurd h (Nat.not_lt_zero _)
  | succ k ih =>
    intro j v eN hj hk hv
    rw [fL_X2_becomeLike_26, eN, nI_1, nI_clamp (by omega)]
    by_cases c : nI N ≤ nI j
    · have c' := (nI_leI (by omega) (by omega)).mp c
      rw [if_pos c]
      exact ⟨eN, rfl, rfl, fun i hi => hv i (by omega)⟩
    · have c' : j < N := by
        rcases Nat.lt_or_ge j N with h | h
        · exact h
        · exact absurd ((nI_leI (by omega) (by omega)).mpr h) c
      rw [if_neg c]
      refine ih (j + 1) (T_thick' (T_parts' (T_kind' v (upd (T_kind v) j ((T_kind O) j))) (upd (T_parts v) j ((T_parts O) j))) (upd (T_thick v) j ((T_thick O) j))) eN (by omega) (by omega) (fun i hi => ?_)
      show upd (T_kind v) j (T_kind O j) i = _ ∧ upd (T_parts v) j (T_parts O j) i = _ ∧ upd (T_thick v) j (T_thick O j) i = _
      by_cases e : i = j
      · rw [e, pk_us, pk_us, pk_us]; exact ⟨rfl, rfl, rfl⟩
      · rw [pk_un e, pk_un e, pk_un e]; exact hv i (by omega)
theorem bl_rel {X : XS} {M : MS} (hR : Rel X M) (T : TN) : Rel (X_now' X (f_X2_becomeLike T (X_now X))) M := by
  obtain ⟨N, h6, eN, hN⟩ := hR.N
  have eT : T_count (X_now X) = nI N := by rw [← hR.1.1.1]; exact eN
  have h := bl_L2 (T := T) (O := X_now X) h6 7 0 (T_tin' (T_inside' (T_count' T (T_count (X_now X))) (T_inside (X_now X))) (T_tin (X_now X))) eT (by omega) (by omega) (fun i hi => absurd hi (Nat.not_lt_zero _))
  rw [nI_0] at h
  obtain ⟨h1, h2, h3, h4⟩ := h
  refine ⟨⟨⟨?_, ?_, ?_⟩, hR.1.2.1, fun i hi => ?_, hR.1.2.2.2⟩, hR.2.1, hR.2.2.1, hR.2.2.2⟩
  · show M_people M = T_count (f_X2_becomeLike T (X_now X))
    rw [eN]; exact h1.symm
  · show M_isIn M = T_inside (f_X2_becomeLike T (X_now X))
    rw [hR.1.1.2.1]; exact h2.symm
  · show M_tin M = T_tin (f_X2_becomeLike T (X_now X))
    rw [hR.1.1.2.2]; exact h3.symm
  · have g1 := hR.1.2.2.1 i hi
    obtain ⟨g2, g3, g4⟩ := h4 i (by omega)
    refine ⟨?_, ?_, ?_, g1.2.2.2⟩
    · show M_kind M i = T_kind (f_X2_becomeLike T (X_now X)) i
      rw [g1.1]; exact g2.symm
    · show M_parts M i = T_parts (f_X2_becomeLike T (X_now X)) i
      rw [g1.2.1]; exact g3.symm
    · show M_thick M i = T_thick (f_X2_becomeLike T (X_now X)) i
      rw [g1.2.2.1]; exact g4.symm
theorem i4 : (4 : Int32).toInt = 4 := rfl
theorem five {a : Int32} (h : 0 ≤ a.toInt ∧ a.toInt ≤ 4) : a = 0 ∨ a = 1 ∨ a = 2 ∨ a = 3 ∨ a = 4 := by
  rw [fa_eq, fa_eq, fa_eq, fa_eq, fa_eq, i0, i1, i2, i3, i4]
  omega
theorem n3_nn {x : Int32} (h : 0 ≤ x.toInt) : ¬ x = (-3 : Int32) := fun e => by rw [e] at h; exact absurd h (by decide)
theorem act_X {X : XS} {M : MS} (hR : Rel X M) {p : Int32} (a : Int32) (hp : ¬ f_X4_isPerson M p = 0) : f_X3_act X p a = ((f_X2_acts (X_now X) p a).1, X_now' X (f_X2_acts (X_now X) p a).2) := by
  unfold f_X3_act
  rw [rel_has hR, if_neg hp]
theorem can_0 (M : MS) (p : Int32) : f_X4_canBe M p (0 : Int32) = if M_isIn M = 0 then (0 : Int32) else (1 : Int32) := by
  unfold f_X4_canBe
  rw [if_pos rfl]
theorem can_1 (M : MS) (p : Int32) : f_X4_canBe M p (1 : Int32) = f_X4_isOf (M_isIn M) p := by
  unfold f_X4_canBe
  rw [if_neg (by decide), if_pos rfl]
theorem can_2 (M : MS) (p : Int32) : f_X4_canBe M p (2 : Int32) = if f_X4_isOf (M_isIn M) p = 0 then (1 : Int32) else (0 : Int32) := by
  unfold f_X4_canBe
  rw [if_neg (by decide), if_neg (by decide), if_pos rfl]
theorem can_3 (M : MS) (p : Int32) : f_X4_canBe M p (3 : Int32) = f_X4_isOf (M_isIn M) p := by
  unfold f_X4_canBe
  rw [if_neg (by decide), if_neg (by decide), if_neg (by decide), if_pos rfl]
theorem can_4 (M : MS) (p : Int32) : f_X4_canBe M p (4 : Int32) = if f_X4_isOf (M_isIn M) p = 0 then (0 : Int32) else (if M_tin M ≤ 0 then (0 : Int32) else (1 : Int32)) := by
  unfold f_X4_canBe
  rw [if_neg (by decide), if_neg (by decide), if_neg (by decide), if_neg (by decide), if_pos rfl]
theorem do_0 (M : MS) (p : Int32) : f_X4_does M p (0 : Int32) = f_X4_doDay M p := by
  unfold f_X4_does
  rw [if_pos rfl]
theorem do_1 (M : MS) (p : Int32) : f_X4_does M p (1 : Int32) = f_X4_doLeave M p := by
  unfold f_X4_does
  rw [if_neg (by decide), if_pos rfl]
theorem do_2 (M : MS) (p : Int32) : f_X4_does M p (2 : Int32) = M_isIn' M ((M_isIn M) ||| ((1 : Int32) <<< (p &&& 31))) := by
  unfold f_X4_does
  rw [if_neg (by decide), if_neg (by decide), if_pos rfl]
theorem do_3 (M : MS) (p : Int32) : f_X4_does M p (3 : Int32) = (f_X4_doGather M p).2 := by
  unfold f_X4_does
  rw [if_neg (by decide), if_neg (by decide), if_neg (by decide), if_pos rfl]
theorem do_4 (M : MS) (p : Int32) : f_X4_does M p (4 : Int32) = (f_X4_doOpen M p).2 := by
  unfold f_X4_does
  rw [if_neg (by decide), if_neg (by decide), if_neg (by decide), if_neg (by decide)]
theorem acts_eq {X : XS} {M : MS} (hR : Rel X M) {p a : Int32} (c1 : ¬ f_X4_isPerson M p = 0) (ha : 0 ≤ a.toInt ∧ a.toInt ≤ 4) : (f_X4_canBe M p a = 0 → (f_X2_acts (X_now X) p a).1 = (-3 : Int32)) ∧ (¬ f_X4_canBe M p a = 0 → ¬ (f_X2_acts (X_now X) p a).1 = (-3 : Int32) ∧ Rel (X_now' X (f_X2_acts (X_now X) p a).2) (f_X4_does M p a)) := by
  have hp := mi_r c1
  rcases five ha with rfl | rfl | rfl | rfl | rfl
  · rw [can_0, do_0, acts_0, ← hR.1.1.2.1]
    by_cases c2 : M_isIn M = 0
    · rw [if_pos c2, if_pos c2]
      exact ⟨fun _ => rfl, fun h => absurd rfl h⟩
    · rw [if_neg c2, if_neg c2]
      obtain ⟨-, h2, h3⟩ := act_day hR hp c2
      exact ⟨fun h => absurd h (by decide), fun _ => ⟨n3_nn h2, h3⟩⟩
  · rw [can_1, do_1, acts_1]
    unfold f_X2_isIn
    rw [is01, ← hR.1.1.2.1]
    by_cases c2 : f_X4_isOf (M_isIn M) p = 0
    · rw [if_pos c2]
      exact ⟨fun _ => rfl, fun h => absurd c2 h⟩
    · rw [if_neg c2]
      obtain ⟨-, h2, h3⟩ := act_leave hR hp
      exact ⟨fun h => absurd h c2, fun _ => ⟨n3_nn h2, h3⟩⟩
  · have h := rel_come hR p
    unfold f_X3_come f_X4_come at h
    rw [act_X hR _ c1, if_neg c1] at h
    rw [can_2, do_2]
    by_cases c2 : f_X4_isOf (M_isIn M) p = 0
    · rw [if_pos c2] at h ⊢
      refine ⟨fun h => absurd h (by decide), fun _ => ⟨?_, h.2⟩⟩
      have h1 : (f_X2_acts (X_now X) p (2 : Int32)).1 = f_X4_size ((M_isIn M) ||| ((1 : Int32) <<< (p &&& 31))) := h.1
      rw [h1]
      exact n3_nn (so_sz6 (so_bits hR.so hp).2).1
    · rw [if_neg c2] at h ⊢
      exact ⟨fun _ => h.1, fun h => absurd rfl h⟩
  · have h := rel_gather hR p
    unfold f_X3_gather f_X4_gather at h
    rw [act_X hR _ c1, if_neg c1] at h
    rw [can_3, do_3]
    by_cases c2 : f_X4_isOf (M_isIn M) p = 0
    · rw [if_pos c2] at h
      exact ⟨fun _ => h.1, fun h => absurd c2 h⟩
    · rw [if_neg c2] at h
      refine ⟨fun h => absurd h c2, fun _ => ⟨?_, h.2⟩⟩
      have h1 : (f_X2_acts (X_now X) p (3 : Int32)).1 = (f_X4_doGather M p).1 := h.1
      obtain ⟨g, g1, g2, -⟩ := gth hR.mn (q_in hR.mn hp)
      rw [h1, g2]
      exact n3_nn g1.1
  · have h := rel_open hR p
    unfold f_X3_open f_X4_open at h
    rw [act_X hR _ c1, if_neg c1] at h
    rw [can_4, do_4]
    by_cases c2 : f_X4_isOf (M_isIn M) p = 0
    · rw [if_pos c2] at h ⊢
      exact ⟨fun _ => h.1, fun h => absurd rfl h⟩
    · rw [if_neg c2] at h ⊢
      by_cases c3 : M_tin M ≤ 0
      · rw [if_pos c3] at h ⊢
        exact ⟨fun _ => h.1, fun h => absurd rfl h⟩
      · rw [if_neg c3] at h ⊢
        refine ⟨fun h => absurd h (by decide), fun _ => ⟨?_, h.2⟩⟩
        have h1 : (f_X2_acts (X_now X) p (4 : Int32)).1 = M_tin M := h.1
        rw [h1]
        exact n3_nn hR.tin.1
/-- a year's pairs are people and acts -/
def yP (C : Nat → Int32) (M : MS) (F n : Nat) : Prop := ∀ r : Nat, r < n → ¬ f_X4_isPerson M (C (F + 2 * r)) = 0 ∧ (0 ≤ (C (F + 2 * r + 1)).toInt ∧ (C (F + 2 * r + 1)).toInt ≤ 4)
theorem ip_eq {M w : MS} (h : M_people w = M_people M) (p : Int32) : f_X4_isPerson w p = f_X4_isPerson M p := by
  unfold f_X4_isPerson
  rw [h]
theorem yr_L {X : XS} {M : MS} {J I F n : Nat} {C : Nat → Int32} (K : MS) (hI : I + 2 * n ≤ 60) (hn : n ≤ 20) (hF : F + 2 * n ≤ 240) (hc : ∀ m : Nat, m < 2 * n → S_cells (X_sheets X J) (I + m) = C (F + m)) (hy : yP C M F n) : ∀ (k r : Nat) (T : TN) (w : MS), Rel (X_now' X T) w → M_cells w = C → M_people w = M_people M → r ≤ n → n - r < k →
    ∃ T' : TN, fL_X3_firstWrongOf_14 X J (nI I) (nI n) k (nI r) T = ((fL_X4_goYear_2 K (nI F) (nI n) k (nI r) w).1, X_then' X T') ∧ ((fL_X4_goYear_2 K (nI F) (nI n) k (nI r) w).1 = (-9 : Int32) → Rel (X_now' X T') (fL_X4_goYear_2 K (nI F) (nI n) k (nI r) w).2) := by
  intro k
  induction k with
  | zero => intro r T w _ _ _ _ h; exact absurd h (Nat.not_lt_zero _)
  | succ k ih =>
    intro r T w hR ec ep hr hk
    rw [fL_X3_firstWrongOf_14, fL_X4_goYear_2]
    by_cases c : nI n ≤ nI r
    · rw [if_pos c, if_pos c]
      exact ⟨T, rfl, fun _ => hR⟩
    · have c' : r < n := by
        rcases Nat.lt_or_ge r n with h | h
        · exact h
        · exact absurd ((nI_leI (by omega) (by omega)).mpr h) c
      rw [if_neg c, if_neg c, n_2m, nI_add, nI_add, nI_1, nI_1, nI_1, at_n _ (by omega), at_n _ (by omega), nI_clamp (by omega), nI_clamp (by omega), ec, hc _ (by omega), show I + 2 * r + 1 = I + (2 * r + 1) by omega, hc _ (by omega), show F + (2 * r + 1) = F + 2 * r + 1 by omega]
      obtain ⟨y1, y2⟩ := hy r c'
      have y1' : ¬ f_X4_isPerson w (C (F + 2 * r)) = 0 := by rw [ip_eq ep]; exact y1
      have hA := acts_eq hR y1' y2
      have eX : X_now (X_now' X T) = T := rfl
      rw [eX] at hA
      by_cases c2 : f_X4_canBe w (C (F + 2 * r)) (C (F + 2 * r + 1)) = 0
      · rw [if_pos c2, if_pos (hA.1 c2)]
        refine ⟨_, rfl, fun h => ?_⟩
        exfalso
        have h9 : nI r = (-9 : Int32) := h
        rw [fa_eq, nI_toInt (by omega)] at h9
        rw [show (-9 : Int32).toInt = -9 by decide] at h9
        omega
      · obtain ⟨a1, a2⟩ := hA.2 c2
        rw [if_neg c2, if_neg a1]
        have hf := fr_does w (C (F + 2 * r)) (C (F + 2 * r + 1))
        refine ih (r + 1) _ _ ?_ (by rw [fr_cells hf]; exact ec) (by rw [fr_people hf]; exact ep) (by omega) (by omega)
        exact a2
theorem aoy (x : Int32) : f_X3_isAskedOfYear x = 0 ↔ (f_X4_within x (0 : Int32) (3 : Int32) = 0 ∧ f_X4_within x (10 : Int32) (15 : Int32) = 0) := by
  unfold f_X3_isAskedOfYear f_X4_within
  by_cases c1 : x < 0
  · rw [if_pos c1, if_pos c1]
    have c2 : x < (10 : Int32) := by
      rw [fa_lt, i0] at c1
      rw [fa_lt, show (10 : Int32).toInt = 10 from rfl]; omega
    rw [if_pos c2, if_pos c2]
    exact ⟨fun _ => ⟨rfl, rfl⟩, fun _ => rfl⟩
  · rw [if_neg c1, if_neg c1, le_ite]
    by_cases c3 : (3 : Int32) < x
    · rw [if_pos c3, if_pos c3]
      by_cases c2 : x < (10 : Int32)
      · rw [if_pos c2, if_pos c2]
        exact ⟨fun _ => ⟨rfl, rfl⟩, fun _ => rfl⟩
      · rw [if_neg c2, if_neg c2]
        by_cases c4 : (15 : Int32) < x
        · have c5 : (16 : Int32) ≤ x := by
            rw [fa_lt, show (15 : Int32).toInt = 15 from rfl] at c4
            rw [fa_le, show (16 : Int32).toInt = 16 from rfl]; omega
          rw [if_pos c4, if_pos c5]
          exact ⟨fun _ => ⟨rfl, rfl⟩, fun _ => rfl⟩
        · have c5 : ¬ (16 : Int32) ≤ x := by
            rw [fa_lt, show (15 : Int32).toInt = 15 from rfl] at c4
            rw [fa_le, show (16 : Int32).toInt = 16 from rfl]; omega
          rw [if_neg c4, if_neg c5]
          exact ⟨fun h => absurd h (by decide), fun h => absurd h.2 (by decide)⟩
    · rw [if_neg c3, if_neg c3]
      exact ⟨fun h => absurd h (by decide), fun h => absurd h.1 (by decide)⟩
/-- what is told behind a year -/
theorem ty_eq {X : XS} {w : MS} {T : TN} (hR : Rel (X_now' X T) w) {x : Int32} (ha : ¬ f_X3_isAskedOfYear x = 0) (h1 : ¬ x = (1 : Int32)) : f_X3_behindYear (X_then' X T) x = f_X4_tellYear w x := by
  unfold f_X3_behindYear f_X4_tellYear
  rw [show X_then (X_then' X T) = T from rfl]
  have eX : X_now (X_now' X T) = T := rfl
  have ep := rel_has hR (x - (10 : Int32))
  have es := sa_eq hR
  rw [eX] at ep es
  have ei : M_isIn w = T_inside T := hR.1.1.2.1
  have et : M_tin w = T_tin T := hR.1.1.2.2
  rw [ep, es, ei, et, if_neg h1]
  by_cases c0 : x = 0
  · rw [if_pos c0, c0, if_pos (by decide), if_pos rfl]
  · rw [if_neg c0]
    by_cases c2 : x = (2 : Int32)
    · rw [if_pos c2, if_pos (by rw [c2]; decide), if_neg c0, if_pos c2]
    · rw [if_neg c2]
      by_cases c3 : x = (3 : Int32)
      · rw [if_pos c3, if_pos (by rw [c3]; decide), if_neg c0, if_neg c2]
      · rw [if_neg c3]
        have h10 : ¬ x < (10 : Int32) := by
          intro h
          apply ha
          rw [aoy]
          unfold f_X4_within
          by_cases d : x < 0
          · rw [if_pos d, if_pos h]; exact ⟨rfl, rfl⟩
          · rw [if_neg d, if_pos h, if_pos]
            · exact ⟨rfl, rfl⟩
            · rw [fa_lt, i0] at d
              rw [fa_eq, i0] at c0
              rw [fa_eq, i1] at h1
              rw [fa_eq, i2] at c2
              rw [fa_eq, i3] at c3
              rw [fa_lt, i3]; omega
        rw [if_neg h10]
        by_cases c4 : f_X4_isPerson w (x - (10 : Int32)) = 0
        · rw [if_pos c4, if_pos c4]
        · rw [if_neg c4, if_neg c4]
          exact ((hR.1.2.2.1 _ (q_cl (mi_r c4))).2.1).symm
/-- the end of a year, as the reference has it -/
def yE (M : MS) (x4 x5 x7 : Int32) : Int32 × MS := (if x5 = (1 : Int32) then ((f_X4_goYear (f_X4_keep (M_fault' M 0)) x7 x4).1, (f_X4_putBack ((f_X4_goYear (f_X4_keep (M_fault' M 0)) x7 x4).2))) else (if (f_X4_goYear (f_X4_keep (M_fault' M 0)) x7 x4).1 = (-9 : Int32) then ((f_X4_tellYear ((f_X4_goYear (f_X4_keep (M_fault' M 0)) x7 x4).2) x5), (f_X4_putBack ((f_X4_goYear (f_X4_keep (M_fault' M 0)) x7 x4).2))) else (((-100 : Int32) - (f_X4_goYear (f_X4_keep (M_fault' M 0)) x7 x4).1), (f_X4_putBack ((f_X4_goYear (f_X4_keep (M_fault' M 0)) x7 x4).2)))))
theorem yq_L {X : XS} {M : MS} (hR : Rel X M) {J I F n : Nat} (x1 x2 x3 x5 x6 : Int32) (hI : I + 2 * n ≤ 60) (hn : n ≤ 20) (hF : F + 2 * n ≤ 240) (hc : ∀ m : Nat, m < 2 * n → S_cells (X_sheets X J) (I + m) = M_cells M (F + m)) : ∀ (k r : Nat), r ≤ n → n - r < k → (∀ t : Nat, t < r → ¬ f_X4_isPerson M (M_cells M (F + 2 * t)) = 0 ∧ (0 ≤ (M_cells M (F + 2 * t + 1)).toInt ∧ (M_cells M (F + 2 * t + 1)).toInt ≤ 4)) →
    (fL_X3_refusalOfPairs_3 (X_latestFault' X (0 : Int32)) J (nI I) (nI n) k (nI r) = 0 ∧ fL_X4_year_103 M x1 x2 x3 (nI n) x5 x6 (nI F) k (nI r) (0 : Int32) = yE M (nI n) x5 (nI F) ∧ yP (M_cells M) M F n) ∨ (¬ fL_X3_refusalOfPairs_3 (X_latestFault' X (0 : Int32)) J (nI I) (nI n) k (nI r) = 0 ∧ fL_X4_year_103 M x1 x2 x3 (nI n) x5 x6 (nI F) k (nI r) (0 : Int32) = (fL_X3_refusalOfPairs_3 (X_latestFault' X (0 : Int32)) J (nI I) (nI n) k (nI r), M_fault' M (0 : Int32))) := by
  intro k
  induction k with
  | zero => intro r _ h; exact absurd h (Nat.not_lt_zero _)
  | succ k ih =>
    intro r hr hk ht
    rw [fL_X3_refusalOfPairs_3, fL_X4_year_103]
    by_cases c : nI n ≤ nI r
    · have c' := (nI_leI (by omega) (by omega)).mp c
      rw [if_pos c, if_pos c]
      exact Or.inl ⟨rfl, rfl, fun t h => ht t (by omega)⟩
    · have c' : r < n := by
        rcases Nat.lt_or_ge r n with h | h
        · exact h
        · exact absurd ((nI_leI (by omega) (by omega)).mpr h) c
      rw [if_neg c, if_neg c, n_2m, nI_add, nI_add, nI_1, nI_1, nI_1, at_n _ (by omega), at_n _ (by omega), nI_clamp (by omega), nI_clamp (by omega)]
      have e1 : S_cells (X_sheets (X_latestFault' X (0 : Int32)) J) (I + 2 * r) = M_cells M (F + 2 * r) := hc _ (by omega)
      have e2 : S_cells (X_sheets (X_latestFault' X (0 : Int32)) J) (I + 2 * r + 1) = M_cells M (F + 2 * r + 1) := hc (2 * r + 1) (by omega)
      have e3 : f_X2_has (X_now (X_latestFault' X (0 : Int32))) (M_cells M (F + 2 * r)) = f_X4_isPerson M (M_cells M (F + 2 * r)) := rel_has (hR.fault (0 : Int32)) _
      have e4 : f_X4_isPerson (M_fault' M (0 : Int32)) (M_cells M (F + 2 * r)) = f_X4_isPerson M (M_cells M (F + 2 * r)) := rfl
      have e5 : f_X3_isBetween (M_cells M (F + 2 * r + 1)) (0 : Int32) (4 : Int32) = f_X4_within (M_cells M (F + 2 * r + 1)) (0 : Int32) (4 : Int32) := rfl
      rw [e1, e2, e3, e4, e5]
      by_cases c1 : f_X4_isPerson M (M_cells M (F + 2 * r)) = 0
      · rw [if_pos c1, if_pos c1]
        exact Or.inr ⟨by decide, rfl⟩
      · rw [if_neg c1, if_neg c1]
        by_cases c2 : f_X4_within (M_cells M (F + 2 * r + 1)) (0 : Int32) (4 : Int32) = 0
        · rw [if_pos c2, if_pos c2]
          exact Or.inr ⟨by decide, rfl⟩
        · rw [if_neg c2, if_neg c2]
          refine ih (r + 1) (by omega) (by omega) (fun t h => ?_)
          by_cases e : t = r
          · rw [e]
            have h9 := wi_r c2
            rw [i0, i4] at h9
            exact ⟨c1, h9⟩
          · exact ht t (by omega)
theorem Rel.sheet {X : XS} {M : MS} (h : Rel X M) {x : Int32} (hx : vp_in x 4) : RelS (X_sheets X x.toNatClampNeg) (M_sorts M x.toNatClampNeg) (M_sheetLong M x.toNatClampNeg) (fun i => M_cells M (60 * x.toNatClampNeg + i)) := h.2.2.2 _ (sh_cl hx)
theorem rel_year {X : XS} {M : MS} (hR : Rel X M) (x1 x2 x3 x4 x5 : Int32) : (f_X3_year X x1 x2 x3 x4 x5).1 = (f_X4_year M x1 x2 x3 x4 x5).1 ∧ Rel (f_X3_year X x1 x2 x3 x4 x5).2 (f_X4_year M x1 x2 x3 x4 x5).2 := by
  have hR0 := hR.fault (0 : Int32)
  unfold f_X3_year f_X4_year
  rw [sh_ite, lane_eq]
  by_cases c1 : f_X4_isSheet x1 = 0
  · rw [if_pos c1, if_pos c1]; exact ⟨rfl, hR0⟩
  · rw [if_neg c1, if_neg c1]
    by_cases c2 : f_X4_isSort x2 = 0
    · rw [if_pos c2, if_pos c2]; exact ⟨rfl, hR0⟩
    · rw [if_neg c2, if_neg c2, ← wi_ite]
      by_cases c3 : f_X4_within x4 (0 : Int32) (20 : Int32) = 0
      · rw [if_pos c3, if_pos c3]; exact ⟨rfl, hR0⟩
      · rw [if_neg c3, if_neg c3]
        by_cases c4 : f_X3_isAskedOfYear x5 = 0
        · have c5 := (aoy x5).mp c4
          rw [if_pos c4, if_pos c5.1, if_pos c5.2]; exact ⟨rfl, hR0⟩
        · rw [if_neg c4]
          have hx := sh_in c1
          have hS := hR.sheet hx
          have ef : f_X1_faultOf (X_sheets X x1.toNatClampNeg) x2 x3 ((2 : Int32) * x4) = f_X4_against (M_fault' M (0 : Int32)) x1 x2 x3 ((2 : Int32) * x4) := fo_eq (M := M_fault' M (0 : Int32)) hS
          rw [ef]
          have body : ∀ B : Int32 × MS, B = (if (f_X4_against (M_fault' M (0 : Int32)) x1 x2 x3 ((2 : Int32) * x4)) = 0 then (if (M_people M) = 0 then ((-3 : Int32), (M_fault' M (0 : Int32))) else fL_X4_year_103 M x1 x2 x3 x4 x5 (f_X4_against (M_fault' M (0 : Int32)) x1 x2 x3 ((2 : Int32) * x4)) (((60 : Int32) * x1) + x3) (x4.toInt.toNat + 1) (0 : Int32) (0 : Int32)) else ((f_X4_fails (M_fault' M (0 : Int32)) (f_X4_against (M_fault' M (0 : Int32)) x1 x2 x3 ((2 : Int32) * x4))).1, (f_X4_fails (M_fault' M (0 : Int32)) (f_X4_against (M_fault' M (0 : Int32)) x1 x2 x3 ((2 : Int32) * x4))).2)) → (if (f_X4_within x5 (0 : Int32) (3 : Int32)) = 0 then (if (f_X4_within x5 (10 : Int32) (15 : Int32)) = 0 then ((-2 : Int32), (M_fault' M (0 : Int32))) else B) else B) = B := by
            intro B _
            by_cases d1 : f_X4_within x5 (0 : Int32) (3 : Int32) = 0
            · rw [if_pos d1, if_neg (fun d2 => c4 ((aoy x5).mpr ⟨d1, d2⟩))]
            · rw [if_neg d1]
          rw [body _ rfl]
          clear body
          by_cases c6 : f_X4_against (M_fault' M (0 : Int32)) x1 x2 x3 ((2 : Int32) * x4) = 0
          · rw [if_pos c6, if_pos c6, ← hR.1.1.1]
            by_cases c7 : M_people M = 0
            · rw [if_pos c7, if_pos c7]; exact ⟨rfl, hR0⟩
            · rw [if_neg c7, if_neg c7]
              have hcl := fo_cells (M := M_fault' M (0 : Int32)) (x1 := x1) hS c6
              have hr := ag_r (M := M_fault' M (0 : Int32)) hR.mL hx c6
              have hw := wi_r c3
              rw [i0, show (20 : Int32).toInt = 20 from rfl] at hw
              have h2n : ((2 : Int32) * x4).toInt = 2 * x4.toInt := by
                rw [fb_mulI] <;> rw [i2] <;> omega
              rw [h2n] at hr
              obtain ⟨J, j1, e1, j2⟩ := nn_I (vp_in_iff.mp hx).1
              have hJ : J < 4 := by have := (vp_in_iff.mp hx).2; omega
              obtain ⟨I, i1', e3, i2'⟩ := nn_I hr.1
              obtain ⟨n, n1, e4, n2⟩ := nn_I hw.1
              generalize f_X4_against (M_fault' M (0 : Int32)) x1 x2 x3 ((2 : Int32) * x4) = z
              rw [e1] at hcl ⊢
              rw [e3, e4, n_60, nI_add, nI_clamp (by omega), nI_toInt n1, Int.toNat_natCast]
              rw [nI_clamp (by omega)] at hcl
              have hc : ∀ m : Nat, m < 2 * n → S_cells (X_sheets X J) (I + m) = M_cells M (60 * J + I + m) := by
                intro m hm
                have := hcl (I + m) (by omega)
                rw [this]
                show M_cells M (60 * J + (I + m)) = _
                rw [Nat.add_assoc]
              have hq := yq_L hR (J := J) (I := I) (F := 60 * J + I) (n := n) (nI J) x2 (nI I) x5 z (by omega) (by omega) (by omega) hc (n + 1) 0 (by omega) (by omega) (fun t h => absurd h (Nat.not_lt_zero _))
              rw [nI_0] at hq
              have er : f_X3_refusalOfPairs (X_latestFault' X (0 : Int32)) (nI I) (nI n) J = fL_X3_refusalOfPairs_3 (X_latestFault' X (0 : Int32)) J (nI I) (nI n) (n + 1) (0 : Int32) := by
                unfold f_X3_refusalOfPairs
                rw [nI_toInt n1, Int.toNat_natCast]
              rw [er]
              rcases hq with ⟨q1, q2, q3⟩ | ⟨q1, q2⟩
              · rw [if_pos q1, q2]
                have kR : Rel (X_latestFault' X (0 : Int32)) (f_X4_keep (M_fault' M (0 : Int32))) := hR0.cong (rl_kf (kf_keep _)) (kf_isIn (kf_keep _)) (congrArg (fun t => t.2.2.2.2.1) (kf_keep (M_fault' M (0 : Int32)))) (fun i _ => congrFun (congrArg (fun t => t.2.2.2.2.2.1) (kf_keep (M_fault' M (0 : Int32)))) i)
                have kC : M_cells (f_X4_keep (M_fault' M (0 : Int32))) = M_cells M := (kf_cells (M := M_fault' M (0 : Int32)) (kf_keep (M_fault' M (0 : Int32)))).trans rfl
                have kP : M_people (f_X4_keep (M_fault' M (0 : Int32))) = M_people M := (kf_people (M := M_fault' M (0 : Int32)) (kf_keep (M_fault' M (0 : Int32)))).trans rfl
                obtain ⟨T', t1, t2⟩ := yr_L (X := X_latestFault' X (0 : Int32)) (M := M) (J := J) (I := I) (F := 60 * J + I) (n := n) (C := M_cells M) (f_X4_keep (M_fault' M (0 : Int32))) (by omega) (by omega) (by omega) hc q3 (n + 1) 0 (f_X2_becomeLike (X_then (X_latestFault' X (0 : Int32))) (X_now (X_latestFault' X (0 : Int32)))) (f_X4_keep (M_fault' M (0 : Int32))) (bl_rel kR _) kC kP (by omega) (by omega)
                rw [nI_0] at t1 t2
                have eg : f_X4_goYear (f_X4_keep (M_fault' M (0 : Int32))) (nI (60 * J + I)) (nI n) = fL_X4_goYear_2 (f_X4_keep (M_fault' M (0 : Int32))) (nI (60 * J + I)) (nI n) (n + 1) (0 : Int32) (f_X4_keep (M_fault' M (0 : Int32))) := by
                  unfold f_X4_goYear
                  rw [nI_toInt n1, Int.toNat_natCast]
                have ew : f_X3_firstWrongOf (X_latestFault' X (0 : Int32)) (nI I) (nI n) J = ((f_X4_goYear (f_X4_keep (M_fault' M (0 : Int32))) (nI (60 * J + I)) (nI n)).1, X_then' (X_latestFault' X (0 : Int32)) T') := by
                  rw [eg, ← t1]
                  unfold f_X3_firstWrongOf
                  rw [nI_toInt n1, Int.toNat_natCast]
                rw [← eg] at t2
                have pR : Rel (X_then' (X_latestFault' X (0 : Int32)) T') (f_X4_putBack (f_X4_goYear (f_X4_keep (M_fault' M (0 : Int32))) (nI (60 * J + I)) (nI n)).2) := pb_rel hR0 (gy_fr _ _ _)
                rw [ew]
                unfold yE
                generalize f_X4_goYear (f_X4_keep (M_fault' M (0 : Int32))) (nI (60 * J + I)) (nI n) = G at t2 pR ⊢
                by_cases d1 : x5 = (1 : Int32)
                · rw [if_pos d1, if_pos d1]; exact ⟨rfl, pR⟩
                · rw [if_neg d1, if_neg d1]
                  by_cases d2 : G.1 = (-9 : Int32)
                  · rw [if_pos d2, if_pos d2]
                    exact ⟨ty_eq (t2 d2) c4 d1, pR⟩
                  · rw [if_neg d2, if_neg d2]
                    exact ⟨rfl, pR⟩
              · rw [if_neg q1, q2]
                exact ⟨rfl, hR0⟩
          · rw [if_neg c6, if_neg c6]
            exact ⟨rfl, hR0.fault _⟩
