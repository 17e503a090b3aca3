def fL_X3_refusalOfPairs_3 (X : XS) (j : Nat) (x2 : Int32) (x3 : Int32) : Nat → Int32 → Int32
  | 0, _ => 0
  | k + 1, x4 => (if x3 ≤ x4 then (0 : Int32) else (if (f_X2_has (X_now X) (f_X1_at ((X_sheets X) j) (x2 + ((2 : Int32) * x4)))) = 0 then (-1 : Int32) else (if (f_X3_isBetween (f_X1_at ((X_sheets X) j) ((x2 + ((2 : Int32) * x4)) + (1 : Int32))) (0 : Int32) (4 : Int32)) = 0 then (-2 : Int32) else fL_X3_refusalOfPairs_3 X j x2 x3 k (x4 + (1 : Int32)))))
def f_X3_refusalOfPairs (X : XS) (x2 : Int32) (x3 : Int32) (j : Nat) : Int32 := fL_X3_refusalOfPairs_3 X j x2 x3 (x3.toInt.toNat + 1) (0 : Int32)
theorem iw_X3_refusalOfPairs_3 : ∀ w ∈ wsX30, w ∈ wsX3_refusalOfPairs := fun _ h => List.mem_cons_of_mem _ (List.mem_append_left _ (List.mem_append_left _ (List.mem_append_right _ h)))
set_option maxHeartbeats 4000000 in
set_option maxRecDepth 100000 in
theorem L_X3_refusalOfPairs_3 {p : Program} (l : Launch) {e : Env} {s : State} {m : MethodId} {args : Array Value} {below : List Frame} {meth : Method} {c : Code} {A : Nat → Prop} (D : va_G) (cI cO : ClassId) (tF : Nat) (ad : Nat → Nat) (X : XS) (j : Nat) (x2 : Int32) (x3 : Int32) (hj : j < 4) (B : Bx p s m args meth c cX3_refusalOfPairs 5 (some .int) wsX3_refusalOfPairs RX3 D cI cO tF A) : ∀ (k : Nat) (x4 : Int32), (0 ≤ x4.toInt) → ((x3.toInt - x4.toInt).toNat < k) → ∀ (H : Heap) (locs : List Loc), va_P D vwCl (wX ad cI cO X) H → va_D A (wX ad cI cO X) → va_S A s.heap H locs → ∀ ls : Array Slot, lv_has ls 5 [(0, .ref (ad 0)), (1, .ref (ad (14 + 2 * j))), (2, .int x2), (3, .int x3), (4, .int x4)] → W p l e ({ frames := 1, cells := 0, slots := 0, locals := 22 }) s m args below meth c H locs 0 0 (MQ below (Qp D (some (.int (fL_X3_refusalOfPairs_3 X j x2 x3 k x4))) (wX ad cI cO X) A) args s 0 0 A) (F0 m 3 ls []) := by
  obtain ⟨hx, hb, hret, hml, hts, hown, hlocks, hE, hA⟩ := id B
  have hK := hE.1
  intro k
  induction k with
  | zero =>
    intro x4 h0 hk
    exact absurd hk (Nat.not_lt_zero _)
  | succ k ih =>
    intro x4 h0 hk H locs hP hD hS ls hl
    refine lv_iload hx hb dX3_refusalOfPairs_3 (lv_at hl 4 rfl) ?_
    refine lv_iload_n hx hb dX3_refusalOfPairs_5 rfl (lv_at hl 3 rfl) ?_
    refine lv_icmp_ge (tgt := 60) hx hb dX3_refusalOfPairs_6 (by decide) (fun c_6 => ?_) (fun c_6 => ?_)
    · refine lv_iconst (v := (0 : Int32)) hx hb dX3_refusalOfPairs_60 (by decide) ?_
      have hF : fL_X3_refusalOfPairs_3 X j x2 x3 (k + 1) x4 = (0 : Int32) := by rw [fL_X3_refusalOfPairs_3, if_pos c_6]
      rw [hF]
      exact kr_i B hP hS rfl rfl dX3_refusalOfPairs_61
    · refine lv_aload_n hx hb dX3_refusalOfPairs_9 rfl (lv_at hl 0 rfl) ?_
      refine va_get (D := D) (ci := 3) (v := .ref (ad 2)) (C := RX3) (T := TX3) (N := 7) hx hb hts iw_X3_refusalOfPairs_3 hown hK hP 0 rfl rfl 1 (by decide) (hts (.fieldLink RX3 20 "TownLisp" "now" "LTownLisp$Town;") (by decide +kernel)) (fun _ h9 => h9) rfl dX3_refusalOfPairs_10 ?_
      refine lv_aload_n hx hb dX3_refusalOfPairs_13 rfl (lv_at hl 1 rfl) ?_
      refine lv_iload_n hx hb dX3_refusalOfPairs_14 rfl (lv_at hl 2 rfl) ?_
      refine lv_iconst (v := (2 : Int32)) hx hb dX3_refusalOfPairs_15 (by decide) ?_
      refine lv_iload hx hb dX3_refusalOfPairs_16 (lv_at hl 4 rfl) ?_
      refine lv_imul hx hb dX3_refusalOfPairs_18 ?_
      refine lv_iadd hx hb dX3_refusalOfPairs_19 ?_
      refine kc_V (As := [.int (x2 + ((2 : Int32) * x4))]) (rest := [.ref (ad 2)]) B (c_X1_at l D cI cO tF (ad (14 + 2 * j)) (ad (15 + 2 * j)) ((X_sheets X) j) (x2 + ((2 : Int32) * x4)) ) (cwV 1 hts gX3_refusalOfPairs_X1_at rfl rfl rfl (by decide +kernel) ⟨Nat.le_of_ble_eq_true rfl, Nat.le_of_ble_eq_true rfl⟩) hP hD hS [14 + 2 * j, 15 + 2 * j] (wX_subC hj) (nd_s _) (w' := wX ad cI cO X) (wX_same hj) rfl (14 + 2 * j) 1 rfl (wX_sheet hj) rfl rfl hl.1 rfl (Nat.le_of_ble_eq_true rfl) dX3_refusalOfPairs_20 ⟨Nat.zero_le _, Nat.zero_le _⟩ (fun H locs hP hD hS => ?_)
      have hD : va_D A (wX ad cI cO X) := hD
      refine kc_V (As := [.int (f_X1_at ((X_sheets X) j) (x2 + ((2 : Int32) * x4)))]) (rest := []) B (c_X2_has l D cI cO tF (ad 2) (ad 3) (ad 4) (ad 5) (X_now X) (f_X1_at ((X_sheets X) j) (x2 + ((2 : Int32) * x4))) ) (cwV 1 hts gX3_refusalOfPairs_X2_has rfl rfl rfl (by decide +kernel) ⟨Nat.le_of_ble_eq_true rfl, Nat.le_of_ble_eq_true rfl⟩) hP hD hS [2, 3, 4, 5] wX_subN (by decide) (w' := wX ad cI cO X) (wX_sameN) rfl 2 2 rfl rfl rfl rfl hl.1 rfl (Nat.le_of_ble_eq_true rfl) dX3_refusalOfPairs_23 ⟨Nat.zero_le _, Nat.zero_le _⟩ (fun H locs hP hD hS => ?_)
      have hD : va_D A (wX ad cI cO X) := hD
      refine lv_if_ne (tgt := 31) hx hb dX3_refusalOfPairs_26 (by decide) (fun c_26 => ?_) (fun c_26 => ?_)
      · refine lv_aload_n hx hb dX3_refusalOfPairs_31 rfl (lv_at hl 1 rfl) ?_
        refine lv_iload_n hx hb dX3_refusalOfPairs_32 rfl (lv_at hl 2 rfl) ?_
        refine lv_iconst (v := (2 : Int32)) hx hb dX3_refusalOfPairs_33 (by decide) ?_
        refine lv_iload hx hb dX3_refusalOfPairs_34 (lv_at hl 4 rfl) ?_
        refine lv_imul hx hb dX3_refusalOfPairs_36 ?_
        refine lv_iadd hx hb dX3_refusalOfPairs_37 ?_
        refine lv_iconst (v := (1 : Int32)) hx hb dX3_refusalOfPairs_38 (by decide) ?_
        refine lv_iadd hx hb dX3_refusalOfPairs_39 ?_
        refine kc_V (As := [.int ((x2 + ((2 : Int32) * x4)) + (1 : Int32))]) (rest := []) B (c_X1_at l D cI cO tF (ad (14 + 2 * j)) (ad (15 + 2 * j)) ((X_sheets X) j) ((x2 + ((2 : Int32) * x4)) + (1 : Int32)) ) (cwV 1 hts gX3_refusalOfPairs_X1_at rfl rfl rfl (by decide +kernel) ⟨Nat.le_of_ble_eq_true rfl, Nat.le_of_ble_eq_true rfl⟩) hP hD hS [14 + 2 * j, 15 + 2 * j] (wX_subC hj) (nd_s _) (w' := wX ad cI cO X) (wX_same hj) rfl (14 + 2 * j) 1 rfl (wX_sheet hj) rfl rfl hl.1 rfl (Nat.le_of_ble_eq_true rfl) dX3_refusalOfPairs_40 ⟨Nat.zero_le _, Nat.zero_le _⟩ (fun H locs hP hD hS => ?_)
        have hD : va_D A (wX ad cI cO X) := hD
        refine lv_iconst (v := (0 : Int32)) hx hb dX3_refusalOfPairs_43 (by decide) ?_
        refine lv_iconst (v := (4 : Int32)) hx hb dX3_refusalOfPairs_44 (by decide) ?_
        refine kc_S (As := [.int (f_X1_at ((X_sheets X) j) ((x2 + ((2 : Int32) * x4)) + (1 : Int32))), .int (0 : Int32), .int (4 : Int32)]) (rest := []) B (c_X3_isBetween l D cI cO tF (f_X1_at ((X_sheets X) j) ((x2 + ((2 : Int32) * x4)) + (1 : Int32))) (0 : Int32) (4 : Int32) ) (va_cwS 3 hts gX3_refusalOfPairs_X3_isBetween rfl rfl rfl (by decide +kernel) ⟨Nat.le_of_ble_eq_true rfl, Nat.le_of_ble_eq_true rfl⟩) hP hD hS [] rfl (by decide) (w' := wX ad cI cO X) rfl rfl rfl hl.1 rfl (Nat.le_of_ble_eq_true rfl) dX3_refusalOfPairs_45 ⟨Nat.zero_le _, Nat.zero_le _⟩ (fun H locs hP hD hS => ?_)
        have hD : va_D A (wX ad cI cO X) := hD
        refine lv_if_ne (tgt := 54) hx hb dX3_refusalOfPairs_48 (by decide) (fun c_48 => ?_) (fun c_48 => ?_)
        · refine lv_iinc (v := (x4 + (1 : Int32))) (lv' := [(4, .int (x4 + (1 : Int32))), (0, .ref (ad 0)), (1, .ref (ad (14 + 2 * j))), (2, .int x2), (3, .int x3)]) hx hb dX3_refusalOfPairs_54 hl (k := 4) rfl rfl (by decide) rfl (fun ls hl => ?_)
          refine lv_goto (tgt := 3) hx hb dX3_refusalOfPairs_57 (by decide) ?_
          have hF : fL_X3_refusalOfPairs_3 X j x2 x3 (k + 1) x4 = fL_X3_refusalOfPairs_3 X j x2 x3 k (x4 + (1 : Int32)) := by rw [fL_X3_refusalOfPairs_3, if_neg c_6, if_neg c_26, if_neg c_48]
          rw [hF]
          exact ih (x4 + (1 : Int32)) (lp_pre h0 c_6) (lp_mu h0 c_6 hk) _ _ hP hD hS ls (lv_sub hl [1, 2, 3, 4, 0] rfl)
        · refine lv_bipush (v := (-2 : Int32)) hx hb dX3_refusalOfPairs_51 (by decide) ?_
          have hF : fL_X3_refusalOfPairs_3 X j x2 x3 (k + 1) x4 = (-2 : Int32) := by rw [fL_X3_refusalOfPairs_3, if_neg c_6, if_neg c_26, if_pos c_48]
          rw [hF]
          exact kr_i B hP hS rfl rfl dX3_refusalOfPairs_53
      · refine lv_iconst (v := (-1 : Int32)) hx hb dX3_refusalOfPairs_29 (by decide) ?_
        have hF : fL_X3_refusalOfPairs_3 X j x2 x3 (k + 1) x4 = (-1 : Int32) := by rw [fL_X3_refusalOfPairs_3, if_neg c_6, if_pos c_26]
        rw [hF]
        exact kr_i B hP hS rfl rfl dX3_refusalOfPairs_30
set_option maxHeartbeats 4000000 in
set_option maxRecDepth 100000 in
theorem c_X3_refusalOfPairs (l : Launch) (D : va_G) (cI cO : ClassId) (tF : Nat) (ad : Nat → Nat) (X : XS) (x2 : Int32) (x3 : Int32) (j : Nat) (hj : j < 4) : Ct l yX3_refusalOfPairs wsX3_refusalOfPairs ({ frames := 1, cells := 0, slots := 0, locals := 22 }) D cI cO tF [.ref (ad 0), .ref (ad (14 + 2 * j)), .int x2, .int x3] (wX ad cI cO X) (some (.int (f_X3_refusalOfPairs X x2 x3 j))) (wX ad cI cO X) := by
  refine Ct.of (cc := cX3_refusalOfPairs) (maxL := 5) (ret := (some .int)) (own := RX3) (by decide) rfl rfl (Nat.le_of_ble_eq_true rfl) ?_
  intro p e s m args below meth c A ls B hP hD hS hl
  obtain ⟨hx, hb, hret, hml, hts, hown, hlocks, hE, hA⟩ := id B
  have hK := hE.1
  have hl : lv_has ls 5 [(0, .ref (ad 0)), (1, .ref (ad (14 + 2 * j))), (2, .int x2), (3, .int x3)] := hl
  refine lv_iconst (v := (0 : Int32)) hx hb dX3_refusalOfPairs_0 (by decide) ?_
  refine lv_istore (lv' := [(4, .int (0 : Int32)), (0, .ref (ad 0)), (1, .ref (ad (14 + 2 * j))), (2, .int x2), (3, .int x3)]) hx hb dX3_refusalOfPairs_1 hl (by decide) rfl (fun ls hl => ?_)
  have hF : f_X3_refusalOfPairs X x2 x3 j = fL_X3_refusalOfPairs_3 X j x2 x3 (x3.toInt.toNat + 1) (0 : Int32) := by rw [f_X3_refusalOfPairs]
  rw [hF]
  exact L_X3_refusalOfPairs_3 l D cI cO tF ad X j x2 x3 hj B  (x3.toInt.toNat + 1) (0 : Int32) (Int.le_refl _) (by rw [show (0 : Int32).toInt = 0 from rfl]; omega) _ _ hP hD hS ls (lv_sub hl [1, 2, 3, 4, 0] rfl)
def fL_X3_firstWrongOf_14 (X : XS) (j : Nat) (x2 : Int32) (x3 : Int32) : Nat → Int32 → TN → Int32 × XS
  | 0, _, _ => (0, X)
  | k + 1, x4, v_X_then => (if x3 ≤ x4 then ((-9 : Int32), (X_then' X v_X_then)) else (if (f_X2_acts v_X_then (f_X1_at ((X_sheets X) j) (x2 + ((2 : Int32) * x4))) (f_X1_at ((X_sheets X) j) ((x2 + ((2 : Int32) * x4)) + (1 : Int32)))).1 = (-3 : Int32) then (x4, (X_then' X (f_X2_acts v_X_then (f_X1_at ((X_sheets X) j) (x2 + ((2 : Int32) * x4))) (f_X1_at ((X_sheets X) j) ((x2 + ((2 : Int32) * x4)) + (1 : Int32)))).2)) else fL_X3_firstWrongOf_14 X j x2 x3 k (x4 + (1 : Int32)) ((f_X2_acts v_X_then (f_X1_at ((X_sheets X) j) (x2 + ((2 : Int32) * x4))) (f_X1_at ((X_sheets X) j) ((x2 + ((2 : Int32) * x4)) + (1 : Int32)))).2)))
def f_X3_firstWrongOf (X : XS) (x2 : Int32) (x3 : Int32) (j : Nat) : Int32 × XS := fL_X3_firstWrongOf_14 X j x2 x3 (x3.toInt.toNat + 1) (0 : Int32) (f_X2_becomeLike (X_then X) (X_now X))
theorem iw_X3_firstWrongOf_3 : ∀ w ∈ wsX30, w ∈ wsX3_firstWrongOf := fun _ h => List.mem_cons_of_mem _ (List.mem_append_left _ (List.mem_append_left _ (List.mem_append_right _ h)))
set_option maxHeartbeats 4000000 in
set_option maxRecDepth 100000 in
theorem L_X3_firstWrongOf_14 {p : Program} (l : Launch) {e : Env} {s : State} {m : MethodId} {args : Array Value} {below : List Frame} {meth : Method} {c : Code} {A : Nat → Prop} (D : va_G) (cI cO : ClassId) (tF : Nat) (ad : Nat → Nat) (X : XS) (j : Nat) (x2 : Int32) (x3 : Int32) (hj : j < 4) (hn : (T_count (X_now X)).toInt ≤ 6) (hpa : ∀ r : Int32, 0 ≤ r.toInt → ¬ x3 ≤ r → vp_in (f_X1_at (X_sheets X j) (x2 + ((2 : Int32) * r))) 6) (B : Bx p s m args meth c cX3_firstWrongOf 5 (some .int) wsX3_firstWrongOf RX3 D cI cO tF A) : ∀ (k : Nat) (x4 : Int32) (v_X_then : TN), ((T_count v_X_then).toInt ≤ 6) → (0 ≤ x4.toInt) → ((x3.toInt - x4.toInt).toNat < k) → ∀ (H : Heap) (locs : List Loc), va_P D vwCl (wX ad cI cO (X_then' X v_X_then)) H → va_D A (wX ad cI cO (X_then' X v_X_then)) → va_S A s.heap H locs → ∀ ls : Array Slot, lv_has ls 5 [(0, .ref (ad 0)), (1, .ref (ad (14 + 2 * j))), (2, .int x2), (3, .int x3), (4, .int x4)] → W p l e ({ frames := 5, cells := 0, slots := 0, locals := 115 }) s m args below meth c H locs 0 0 (MQ below (Qp D (some (.int ((fL_X3_firstWrongOf_14 X j x2 x3 k x4 v_X_then).1))) (wX ad cI cO ((fL_X3_firstWrongOf_14 X j x2 x3 k x4 v_X_then).2)) A) args s 0 0 A) (F0 m 14 ls []) := by
  obtain ⟨hx, hb, hret, hml, hts, hown, hlocks, hE, hA⟩ := id B
  have hK := hE.1
  intro k
  induction k with
  | zero =>
    intro x4 v_X_then hc h0 hk
    exact absurd hk (Nat.not_lt_zero _)
  | succ k ih =>
    intro x4 v_X_then hc h0 hk H locs hP hD hS ls hl
    refine lv_iload hx hb dX3_firstWrongOf_14 (lv_at hl 4 rfl) ?_
    refine lv_iload_n hx hb dX3_firstWrongOf_16 rfl (lv_at hl 3 rfl) ?_
    refine lv_icmp_ge (tgt := 63) hx hb dX3_firstWrongOf_17 (by decide) (fun c_17 => ?_) (fun c_17 => ?_)
    · refine lv_bipush (v := (-9 : Int32)) hx hb dX3_firstWrongOf_63 (by decide) ?_
      have hF : fL_X3_firstWrongOf_14 X j x2 x3 (k + 1) x4 v_X_then = ((-9 : Int32), (X_then' X v_X_then)) := by rw [fL_X3_firstWrongOf_14, if_pos c_17]
      rw [hF]
      exact kr_i B hP hS rfl rfl dX3_firstWrongOf_65
    · refine lv_aload_n hx hb dX3_firstWrongOf_20 rfl (lv_at hl 0 rfl) ?_
      refine va_get (D := D) (ci := 3) (v := .ref (ad 6)) (C := RX3) (T := TX3) (N := 7) hx hb hts iw_X3_firstWrongOf_3 hown hK hP 0 rfl rfl 2 (by decide) (hts (.fieldLink RX3 24 "TownLisp" "then" "LTownLisp$Town;") (by decide +kernel)) (fun _ h9 => h9) rfl dX3_firstWrongOf_21 ?_
      refine lv_aload_n hx hb dX3_firstWrongOf_24 rfl (lv_at hl 1 rfl) ?_
      refine lv_iload_n hx hb dX3_firstWrongOf_25 rfl (lv_at hl 2 rfl) ?_
      refine lv_iconst (v := (2 : Int32)) hx hb dX3_firstWrongOf_26 (by decide) ?_
      refine lv_iload hx hb dX3_firstWrongOf_27 (lv_at hl 4 rfl) ?_
      refine lv_imul hx hb dX3_firstWrongOf_29 ?_
      refine lv_iadd hx hb dX3_firstWrongOf_30 ?_
      refine kc_V (As := [.int (x2 + ((2 : Int32) * x4))]) (rest := [.ref (ad 6)]) B (c_X1_at l D cI cO tF (ad (14 + 2 * j)) (ad (15 + 2 * j)) ((X_sheets X) j) (x2 + ((2 : Int32) * x4)) ) (cwV 1 hts gX3_firstWrongOf_X1_at rfl rfl rfl (by decide +kernel) ⟨Nat.le_of_ble_eq_true rfl, Nat.le_of_ble_eq_true rfl⟩) hP hD hS [14 + 2 * j, 15 + 2 * j] (wX_subC hj) (nd_s _) (w' := wX ad cI cO (X_then' X v_X_then)) (wX_same hj) rfl (14 + 2 * j) 1 rfl (wX_sheet hj) rfl rfl hl.1 rfl (Nat.le_of_ble_eq_true rfl) dX3_firstWrongOf_31 ⟨Nat.zero_le _, Nat.zero_le _⟩ (fun H locs hP hD hS => ?_)
      have hD : va_D A (wX ad cI cO (X_then' X v_X_then)) := hD
      refine lv_aload_n hx hb dX3_firstWrongOf_34 rfl (lv_at hl 1 rfl) ?_
      refine lv_iload_n hx hb dX3_firstWrongOf_35 rfl (lv_at hl 2 rfl) ?_
      refine lv_iconst (v := (2 : Int32)) hx hb dX3_firstWrongOf_36 (by decide) ?_
      refine lv_iload hx hb dX3_firstWrongOf_37 (lv_at hl 4 rfl) ?_
      refine lv_imul hx hb dX3_firstWrongOf_39 ?_
      refine lv_iadd hx hb dX3_firstWrongOf_40 ?_
      refine lv_iconst (v := (1 : Int32)) hx hb dX3_firstWrongOf_41 (by decide) ?_
      refine lv_iadd hx hb dX3_firstWrongOf_42 ?_
      refine kc_V (As := [.int ((x2 + ((2 : Int32) * x4)) + (1 : Int32))]) (rest := [.int (f_X1_at ((X_sheets X) j) (x2 + ((2 : Int32) * x4))), .ref (ad 6)]) B (c_X1_at l D cI cO tF (ad (14 + 2 * j)) (ad (15 + 2 * j)) ((X_sheets X) j) ((x2 + ((2 : Int32) * x4)) + (1 : Int32)) ) (cwV 1 hts gX3_firstWrongOf_X1_at rfl rfl rfl (by decide +kernel) ⟨Nat.le_of_ble_eq_true rfl, Nat.le_of_ble_eq_true rfl⟩) hP hD hS [14 + 2 * j, 15 + 2 * j] (wX_subC hj) (nd_s _) (w' := wX ad cI cO (X_then' X v_X_then)) (wX_same hj) rfl (14 + 2 * j) 1 rfl (wX_sheet hj) rfl rfl hl.1 rfl (Nat.le_of_ble_eq_true rfl) dX3_firstWrongOf_43 ⟨Nat.zero_le _, Nat.zero_le _⟩ (fun H locs hP hD hS => ?_)
      have hD : va_D A (wX ad cI cO (X_then' X v_X_then)) := hD
      refine kc_V (As := [.int (f_X1_at ((X_sheets X) j) (x2 + ((2 : Int32) * x4))), .int (f_X1_at ((X_sheets X) j) ((x2 + ((2 : Int32) * x4)) + (1 : Int32)))]) (rest := []) B (c_X2_acts l D cI cO tF (ad 6) (ad 7) (ad 8) (ad 9) v_X_then (f_X1_at ((X_sheets X) j) (x2 + ((2 : Int32) * x4))) (f_X1_at ((X_sheets X) j) ((x2 + ((2 : Int32) * x4)) + (1 : Int32))) (hc) (hpa _ h0 c_17)) (cwV 2 hts gX3_firstWrongOf_X2_acts rfl rfl rfl (by decide +kernel) ⟨Nat.le_of_ble_eq_true rfl, Nat.le_of_ble_eq_true rfl⟩) hP hD hS [6, 7, 8, 9] wX_subH (by decide) (w' := wX ad cI cO (X_then' X (f_X2_acts v_X_then (f_X1_at ((X_sheets X) j) (x2 + ((2 : Int32) * x4))) (f_X1_at ((X_sheets X) j) ((x2 + ((2 : Int32) * x4)) + (1 : Int32)))).2)) (wX_setH _) rfl 6 2 rfl rfl rfl rfl hl.1 rfl (Nat.le_of_ble_eq_true rfl) dX3_firstWrongOf_46 ⟨Nat.zero_le _, Nat.zero_le _⟩ (fun H locs hP hD hS => ?_)
      have hD : va_D A (wX ad cI cO (X_then' X (f_X2_acts v_X_then (f_X1_at ((X_sheets X) j) (x2 + ((2 : Int32) * x4))) (f_X1_at ((X_sheets X) j) ((x2 + ((2 : Int32) * x4)) + (1 : Int32)))).2)) := hD
      refine lv_bipush (v := (-3 : Int32)) hx hb dX3_firstWrongOf_49 (by decide) ?_
      refine lv_icmp_ne (tgt := 57) hx hb dX3_firstWrongOf_51 (by decide) (fun c_51 => ?_) (fun c_51 => ?_)
      · refine lv_iinc (v := (x4 + (1 : Int32))) (lv' := [(4, .int (x4 + (1 : Int32))), (0, .ref (ad 0)), (1, .ref (ad (14 + 2 * j))), (2, .int x2), (3, .int x3)]) hx hb dX3_firstWrongOf_57 hl (k := 4) rfl rfl (by decide) rfl (fun ls hl => ?_)
        refine lv_goto (tgt := 14) hx hb dX3_firstWrongOf_60 (by decide) ?_
        have hF : fL_X3_firstWrongOf_14 X j x2 x3 (k + 1) x4 v_X_then = fL_X3_firstWrongOf_14 X j x2 x3 k (x4 + (1 : Int32)) ((f_X2_acts v_X_then (f_X1_at ((X_sheets X) j) (x2 + ((2 : Int32) * x4))) (f_X1_at ((X_sheets X) j) ((x2 + ((2 : Int32) * x4)) + (1 : Int32)))).2) := by rw [fL_X3_firstWrongOf_14, if_neg c_17, if_neg c_51]
        rw [hF]
        exact ih (x4 + (1 : Int32)) ((f_X2_acts v_X_then (f_X1_at ((X_sheets X) j) (x2 + ((2 : Int32) * x4))) (f_X1_at ((X_sheets X) j) ((x2 + ((2 : Int32) * x4)) + (1 : Int32)))).2) (acts_c hc) (lp_pre h0 c_17) (lp_mu h0 c_17 hk) _ _ hP hD hS ls (lv_sub hl [1, 2, 3, 4, 0] rfl)
      · refine lv_iload hx hb dX3_firstWrongOf_54 (lv_at hl 4 rfl) ?_
        have hF : fL_X3_firstWrongOf_14 X j x2 x3 (k + 1) x4 v_X_then = (x4, (X_then' X (f_X2_acts v_X_then (f_X1_at ((X_sheets X) j) (x2 + ((2 : Int32) * x4))) (f_X1_at ((X_sheets X) j) ((x2 + ((2 : Int32) * x4)) + (1 : Int32)))).2)) := by rw [fL_X3_firstWrongOf_14, if_neg c_17, if_pos c_51]
        rw [hF]
        exact kr_i B hP hS rfl rfl dX3_firstWrongOf_56
set_option maxHeartbeats 4000000 in
set_option maxRecDepth 100000 in
theorem c_X3_firstWrongOf (l : Launch) (D : va_G) (cI cO : ClassId) (tF : Nat) (ad : Nat → Nat) (X : XS) (x2 : Int32) (x3 : Int32) (j : Nat) (hj : j < 4) (hn : (T_count (X_now X)).toInt ≤ 6) (hpa : ∀ r : Int32, 0 ≤ r.toInt → ¬ x3 ≤ r → vp_in (f_X1_at (X_sheets X j) (x2 + ((2 : Int32) * r))) 6) : Ct l yX3_firstWrongOf wsX3_firstWrongOf ({ frames := 5, cells := 0, slots := 0, locals := 115 }) D cI cO tF [.ref (ad 0), .ref (ad (14 + 2 * j)), .int x2, .int x3] (wX ad cI cO X) (some (.int ((f_X3_firstWrongOf X x2 x3 j).1))) (wX ad cI cO ((f_X3_firstWrongOf X x2 x3 j).2)) := by
  refine Ct.of (cc := cX3_firstWrongOf) (maxL := 5) (ret := (some .int)) (own := RX3) (by decide) rfl rfl (Nat.le_of_ble_eq_true rfl) ?_
  intro p e s m args below meth c A ls B hP hD hS hl
  obtain ⟨hx, hb, hret, hml, hts, hown, hlocks, hE, hA⟩ := id B
  have hK := hE.1
  have hl : lv_has ls 5 [(0, .ref (ad 0)), (1, .ref (ad (14 + 2 * j))), (2, .int x2), (3, .int x3)] := hl
  refine lv_aload_n hx hb dX3_firstWrongOf_0 rfl (lv_at hl 0 rfl) ?_
  refine va_get (D := D) (ci := 3) (v := .ref (ad 6)) (C := RX3) (T := TX3) (N := 7) hx hb hts iw_X3_firstWrongOf_3 hown hK hP 0 rfl rfl 2 (by decide) (hts (.fieldLink RX3 24 "TownLisp" "then" "LTownLisp$Town;") (by decide +kernel)) (fun _ h9 => h9) rfl dX3_firstWrongOf_1 ?_
  refine lv_aload_n hx hb dX3_firstWrongOf_4 rfl (lv_at hl 0 rfl) ?_
  refine va_get (D := D) (ci := 3) (v := .ref (ad 2)) (C := RX3) (T := TX3) (N := 7) hx hb hts iw_X3_firstWrongOf_3 hown hK hP 0 rfl rfl 1 (by decide) (hts (.fieldLink RX3 20 "TownLisp" "now" "LTownLisp$Town;") (by decide +kernel)) (fun _ h9 => h9) rfl dX3_firstWrongOf_5 ?_
  refine kc_V (As := [.ref (ad 2)]) (rest := []) B (c_X2_becomeLike l D cI cO tF (ad 6) (ad 7) (ad 8) (ad 9) (ad 2) (ad 3) (ad 4) (ad 5) (X_then X) (X_now X) (hn)) (cwV 1 hts gX3_firstWrongOf_X2_becomeLike rfl rfl rfl (by decide +kernel) ⟨Nat.le_of_ble_eq_true rfl, Nat.le_of_ble_eq_true rfl⟩) hP hD hS [6, 7, 8, 9, 2, 3, 4, 5] wX_subHN (by decide) (w' := wX ad cI cO (X_then' X (f_X2_becomeLike (X_then X) (X_now X)))) (wX_setHN _) rfl 6 2 rfl rfl rfl rfl hl.1 rfl (Nat.le_of_ble_eq_true rfl) dX3_firstWrongOf_8 ⟨Nat.zero_le _, Nat.zero_le _⟩ (fun H locs hP hD hS => ?_)
  have hD : va_D A (wX ad cI cO (X_then' X (f_X2_becomeLike (X_then X) (X_now X)))) := hD
  refine lv_iconst (v := (0 : Int32)) hx hb dX3_firstWrongOf_11 (by decide) ?_
  refine lv_istore (lv' := [(4, .int (0 : Int32)), (0, .ref (ad 0)), (1, .ref (ad (14 + 2 * j))), (2, .int x2), (3, .int x3)]) hx hb dX3_firstWrongOf_12 hl (by decide) rfl (fun ls hl => ?_)
  have hF : f_X3_firstWrongOf X x2 x3 j = fL_X3_firstWrongOf_14 X j x2 x3 (x3.toInt.toNat + 1) (0 : Int32) (f_X2_becomeLike (X_then X) (X_now X)) := by rw [f_X3_firstWrongOf]
  rw [hF]
  exact L_X3_firstWrongOf_14 l D cI cO tF ad X j x2 x3 hj hn hpa B  (x3.toInt.toNat + 1) (0 : Int32) (f_X2_becomeLike (X_then X) (X_now X)) (bl_c hn) (Int.le_refl _) (by rw [show (0 : Int32).toInt = 0 from rfl]; omega) _ _ hP hD hS ls (lv_sub hl [1, 2, 3, 4, 0] rfl)
def f_X3_year (X : XS) (x1 : Int32) (x2 : Int32) (x3 : Int32) (x4 : Int32) (x5 : Int32) : Int32 × XS := (if (0 : Int32) ≤ x1 ∧ x1 < (4 : Int32) then (if (f_X3_isLane x2) = 0 then ((-2 : Int32), (X_latestFault' X (0 : Int32))) else (if x4 < 0 then ((-2 : Int32), (X_latestFault' X (0 : Int32))) else (if (20 : Int32) < x4 then ((-2 : Int32), (X_latestFault' X (0 : Int32))) else (if (f_X3_isAskedOfYear x5) = 0 then ((-2 : Int32), (X_latestFault' X (0 : Int32))) else (if (f_X1_faultOf ((X_sheets X) x1.toNatClampNeg) x2 x3 ((2 : Int32) * x4)) = 0 then (if (T_count (X_now X)) = 0 then ((-3 : Int32), (X_latestFault' X (0 : Int32))) else (if (f_X3_refusalOfPairs (X_latestFault' X (0 : Int32)) x3 x4 x1.toNatClampNeg) = 0 then (if x5 = (1 : Int32) then ((f_X3_firstWrongOf (X_latestFault' X (0 : Int32)) x3 x4 x1.toNatClampNeg).1, (f_X3_firstWrongOf (X_latestFault' X (0 : Int32)) x3 x4 x1.toNatClampNeg).2) else (if (f_X3_firstWrongOf (X_latestFault' X (0 : Int32)) x3 x4 x1.toNatClampNeg).1 = (-9 : Int32) then ((f_X3_behindYear ((f_X3_firstWrongOf (X_latestFault' X (0 : Int32)) x3 x4 x1.toNatClampNeg).2) x5), (f_X3_firstWrongOf (X_latestFault' X (0 : Int32)) x3 x4 x1.toNatClampNeg).2) else (((-100 : Int32) - (f_X3_firstWrongOf (X_latestFault' X (0 : Int32)) x3 x4 x1.toNatClampNeg).1), (f_X3_firstWrongOf (X_latestFault' X (0 : Int32)) x3 x4 x1.toNatClampNeg).2))) else ((f_X3_refusalOfPairs (X_latestFault' X (0 : Int32)) x3 x4 x1.toNatClampNeg), (X_latestFault' X (0 : Int32))))) else ((f_X3_faulty (X_latestFault' X (0 : Int32)) (f_X1_faultOf ((X_sheets X) x1.toNatClampNeg) x2 x3 ((2 : Int32) * x4))).1, (f_X3_faulty (X_latestFault' X (0 : Int32)) (f_X1_faultOf ((X_sheets X) x1.toNatClampNeg) x2 x3 ((2 : Int32) * x4))).2)))))) else ((-1 : Int32), (X_latestFault' X (0 : Int32))))
theorem iw_X3_year_2 : ∀ w ∈ wsX20, w ∈ wsX3_year := fun _ h => List.mem_cons_of_mem _ (List.mem_append_left _ (List.mem_append_right _ h))
theorem iw_X3_year_3 : ∀ w ∈ wsX30, w ∈ wsX3_year := fun _ h => List.mem_cons_of_mem _ (List.mem_append_left _ (List.mem_append_left _ (List.mem_append_right _ h)))
set_option maxHeartbeats 4000000 in
set_option maxRecDepth 100000 in
theorem c_X3_year (l : Launch) (D : va_G) (cI cO : ClassId) (tF : Nat) (ad : Nat → Nat) (X : XS) (x1 : Int32) (x2 : Int32) (x3 : Int32) (x4 : Int32) (x5 : Int32) (hn : (T_count (X_now X)).toInt ≤ 6) : Ct l yX3_year wsX3_year ({ frames := 6, cells := 0, slots := 0, locals := 139 }) D cI cO tF [.ref (ad 0), .int x1, .int x2, .int x3, .int x4, .int x5] (wX ad cI cO X) (some (.int ((f_X3_year X x1 x2 x3 x4 x5).1))) (wX ad cI cO ((f_X3_year X x1 x2 x3 x4 x5).2)) := by
  refine Ct.of (cc := cX3_year) (maxL := 10) (ret := (some .int)) (own := RX3) (by decide) rfl rfl (Nat.le_of_ble_eq_true rfl) ?_
  intro p e s m args below meth c A ls B hP hD hS hl
  obtain ⟨hx, hb, hret, hml, hts, hown, hlocks, hE, hA⟩ := id B
  have hK := hE.1
  have hl : lv_has ls 10 [(0, .ref (ad 0)), (1, .int x1), (2, .int x2), (3, .int x3), (4, .int x4), (5, .int x5)] := hl
  refine lv_aload_n hx hb dX3_year_0 rfl (lv_at hl 0 rfl) ?_
  refine lv_iconst (v := (0 : Int32)) hx hb dX3_year_1 (by decide) ?_
  refine va_put (D := D) (ci := 3) (v := .int (0 : Int32)) (ty := .int) (C := RX3) (T := TX3) (N := 7) hx hb hts iw_X3_year_3 tyX3 tyX3_ok nmX3 hown hK hP hD hS 0 rfl rfl 6 (by decide) (hts (.fieldLink RX3 35 "TownLisp" "latestFault" "I") (by decide +kernel)) (fun _ h9 => h9) rfl (by decide +kernel) rfl rfl (Nat.le_of_ble_eq_true rfl) dX3_year_2 (fun H locs hP hD hS => ?_)
  have hP : va_P D vwCl (wX ad cI cO (X_latestFault' X (0 : Int32))) H := hP
  have hD : va_D A (wX ad cI cO (X_latestFault' X (0 : Int32))) := hD
  refine lv_aload_n hx hb dX3_year_5 rfl (lv_at hl 0 rfl) ?_
  refine lv_iload_n hx hb dX3_year_6 rfl (lv_at hl 1 rfl) ?_
  by_cases c_7 : (0 : Int32) ≤ x1 ∧ x1 < (4 : Int32)
  · have hj_7 : x1.toNatClampNeg < 4 := sh_j c_7
    refine kc_V (As := [.int x1]) (rest := []) B (c_X3_sheetAt_some l D cI cO tF ad (X_latestFault' X (0 : Int32)) x1 c_7) (cwV 1 hts gX3_year_X3_sheetAt rfl rfl rfl (by decide +kernel) ⟨Nat.le_of_ble_eq_true rfl, Nat.le_of_ble_eq_true rfl⟩) hP hD hS [0, 1, 2, 3, 4, 5, 6, 7, 8, 9, 10, 11, 12, 13, 14, 15, 16, 17, 18, 19, 20, 21] wX_subA (by decide) (w' := wX ad cI cO (X_latestFault' X (0 : Int32))) (wX_setA _) (wX_fst _) 0 3 rfl rfl rfl rfl hl.1 rfl (Nat.le_of_ble_eq_true rfl) dX3_year_7 ⟨Nat.zero_le _, Nat.zero_le _⟩ (fun H locs hP hD hS => ?_)
    have hD : va_D A (wX ad cI cO (X_latestFault' X (0 : Int32))) := hD
    refine lv_astore (lv' := [(6, .ref (ad (14 + 2 * x1.toNatClampNeg))), (0, .ref (ad 0)), (1, .int x1), (2, .int x2), (3, .int x3), (4, .int x4), (5, .int x5)]) hx hb dX3_year_10 hl (by decide) rfl (fun ls hl => ?_)
    refine lv_aload hx hb dX3_year_12 (lv_at hl 0 rfl) ?_
    refine lv_ifnonnull (tgt := 19) hx hb dX3_year_14 (by decide) ?_
    refine lv_iload_n hx hb dX3_year_19 rfl (lv_at hl 3 rfl) ?_
    refine kc_S (As := [.int x2]) (rest := []) B (c_X3_isLane l D cI cO tF x2 ) (va_cwS 1 hts gX3_year_X3_isLane rfl rfl rfl (by decide +kernel) ⟨Nat.le_of_ble_eq_true rfl, Nat.le_of_ble_eq_true rfl⟩) hP hD hS [] rfl (by decide) (w' := wX ad cI cO (X_latestFault' X (0 : Int32))) rfl rfl rfl hl.1 rfl (Nat.le_of_ble_eq_true rfl) dX3_year_20 ⟨Nat.zero_le _, Nat.zero_le _⟩ (fun H locs hP hD hS => ?_)
    have hD : va_D A (wX ad cI cO (X_latestFault' X (0 : Int32))) := hD
    refine lv_if_eq (tgt := 46) hx hb dX3_year_23 (by decide) (fun c_23 => ?_) (fun c_23 => ?_)
    · refine lv_bipush (v := (-2 : Int32)) hx hb dX3_year_46 (by decide) ?_
      have hF : f_X3_year X x1 x2 x3 x4 x5 = ((-2 : Int32), (X_latestFault' X (0 : Int32))) := by rw [f_X3_year, if_pos c_7, if_pos c_23]
      rw [hF]
      exact kr_i B hP hS rfl rfl dX3_year_48
    · refine lv_iload hx hb dX3_year_26 (lv_at hl 5 rfl) ?_
      refine lv_if_lt (tgt := 46) hx hb dX3_year_28 (by decide) (fun c_28 => ?_) (fun c_28 => ?_)
      · refine lv_bipush (v := (-2 : Int32)) hx hb dX3_year_46 (by decide) ?_
        have hF : f_X3_year X x1 x2 x3 x4 x5 = ((-2 : Int32), (X_latestFault' X (0 : Int32))) := by rw [f_X3_year, if_pos c_7, if_neg c_23, if_pos c_28]
        rw [hF]
        exact kr_i B hP hS rfl rfl dX3_year_48
      · refine lv_iload hx hb dX3_year_31 (lv_at hl 5 rfl) ?_
        refine lv_bipush (v := (20 : Int32)) hx hb dX3_year_33 (by decide) ?_
        refine lv_icmp_gt (tgt := 46) hx hb dX3_year_35 (by decide) (fun c_35 => ?_) (fun c_35 => ?_)
        · refine lv_bipush (v := (-2 : Int32)) hx hb dX3_year_46 (by decide) ?_
          have hF : f_X3_year X x1 x2 x3 x4 x5 = ((-2 : Int32), (X_latestFault' X (0 : Int32))) := by rw [f_X3_year, if_pos c_7, if_neg c_23, if_neg c_28, if_pos c_35]
          rw [hF]
          exact kr_i B hP hS rfl rfl dX3_year_48
        · refine lv_iload hx hb dX3_year_38 (lv_at hl 6 rfl) ?_
          refine kc_S (As := [.int x5]) (rest := []) B (c_X3_isAskedOfYear l D cI cO tF x5 ) (va_cwS 1 hts gX3_year_X3_isAskedOfYear rfl rfl rfl (by decide +kernel) ⟨Nat.le_of_ble_eq_true rfl, Nat.le_of_ble_eq_true rfl⟩) hP hD hS [] rfl (by decide) (w' := wX ad cI cO (X_latestFault' X (0 : Int32))) rfl rfl rfl hl.1 rfl (Nat.le_of_ble_eq_true rfl) dX3_year_40 ⟨Nat.zero_le _, Nat.zero_le _⟩ (fun H locs hP hD hS => ?_)
          have hD : va_D A (wX ad cI cO (X_latestFault' X (0 : Int32))) := hD
          refine lv_if_ne (tgt := 49) hx hb dX3_year_43 (by decide) (fun c_43 => ?_) (fun c_43 => ?_)
          · refine lv_aload hx hb dX3_year_49 (lv_at hl 0 rfl) ?_
            refine lv_iload_n hx hb dX3_year_51 rfl (lv_at hl 3 rfl) ?_
            refine lv_iload_n hx hb dX3_year_52 rfl (lv_at hl 4 rfl) ?_
            refine lv_iconst (v := (2 : Int32)) hx hb dX3_year_53 (by decide) ?_
            refine lv_iload hx hb dX3_year_54 (lv_at hl 5 rfl) ?_
            refine lv_imul hx hb dX3_year_56 ?_
            refine kc_V (As := [.int x2, .int x3, .int ((2 : Int32) * x4)]) (rest := []) B (c_X1_faultOf l D cI cO tF (ad (14 + 2 * x1.toNatClampNeg)) (ad (15 + 2 * x1.toNatClampNeg)) ((X_sheets X) x1.toNatClampNeg) x2 x3 ((2 : Int32) * x4) ) (cwV 3 hts gX3_year_X1_faultOf rfl rfl rfl (by decide +kernel) ⟨Nat.le_of_ble_eq_true rfl, Nat.le_of_ble_eq_true rfl⟩) hP hD hS [14 + 2 * x1.toNatClampNeg, 15 + 2 * x1.toNatClampNeg] (wX_subC hj_7) (nd_s _) (w' := wX ad cI cO (X_latestFault' X (0 : Int32))) (wX_same hj_7) rfl (14 + 2 * x1.toNatClampNeg) 1 rfl (wX_sheet hj_7) rfl rfl hl.1 rfl (Nat.le_of_ble_eq_true rfl) dX3_year_57 ⟨Nat.zero_le _, Nat.zero_le _⟩ (fun H locs hP hD hS => ?_)
            have hD : va_D A (wX ad cI cO (X_latestFault' X (0 : Int32))) := hD
            refine lv_istore (lv' := [(7, .int (f_X1_faultOf ((X_sheets X) x1.toNatClampNeg) x2 x3 ((2 : Int32) * x4))), (6, .ref (ad (14 + 2 * x1.toNatClampNeg))), (0, .ref (ad 0)), (1, .int x1), (2, .int x2), (3, .int x3), (4, .int x4), (5, .int x5)]) hx hb dX3_year_60 hl (by decide) rfl (fun ls hl => ?_)
            refine lv_iload hx hb dX3_year_62 (lv_at hl 0 rfl) ?_
            refine lv_if_eq (tgt := 74) hx hb dX3_year_64 (by decide) (fun c_64 => ?_) (fun c_64 => ?_)
            · refine lv_aload_n hx hb dX3_year_74 rfl (lv_at hl 2 rfl) ?_
              refine va_get (D := D) (ci := 3) (v := .ref (ad 2)) (C := RX3) (T := TX3) (N := 7) hx hb hts iw_X3_year_3 hown hK hP 0 rfl rfl 1 (by decide) (hts (.fieldLink RX3 20 "TownLisp" "now" "LTownLisp$Town;") (by decide +kernel)) (fun _ h9 => h9) rfl dX3_year_75 ?_
              refine va_get (D := D) (ci := 2) (v := .int (T_count (X_now X))) (C := RX2) (T := TX2) (N := 6) hx hb hts iw_X3_year_2 hown hK hP 2 rfl rfl 3 (by decide) (hts (.fieldLink RX3 69 "TownLisp$Town" "count" "I") (by decide +kernel)) (fun _ h9 => h9) rfl dX3_year_78 ?_
              refine lv_if_ne (tgt := 87) hx hb dX3_year_81 (by decide) (fun c_81 => ?_) (fun c_81 => ?_)
              · refine lv_aload_n hx hb dX3_year_87 rfl (lv_at hl 2 rfl) ?_
                refine lv_aload hx hb dX3_year_88 (lv_at hl 1 rfl) ?_
                refine lv_iload_n hx hb dX3_year_90 rfl (lv_at hl 5 rfl) ?_
                refine lv_iload hx hb dX3_year_91 (lv_at hl 6 rfl) ?_
                refine kc_V (As := [.ref (ad (14 + 2 * x1.toNatClampNeg)), .int x3, .int x4]) (rest := []) B (c_X3_refusalOfPairs l D cI cO tF ad (X_latestFault' X (0 : Int32)) x3 x4 x1.toNatClampNeg (hj_7)) (cwV 3 hts gX3_year_X3_refusalOfPairs rfl rfl rfl (by decide +kernel) ⟨Nat.le_of_ble_eq_true rfl, Nat.le_of_ble_eq_true rfl⟩) hP hD hS [0, 1, 2, 3, 4, 5, 6, 7, 8, 9, 10, 11, 12, 13, 14, 15, 16, 17, 18, 19, 20, 21] wX_subA (by decide) (w' := wX ad cI cO (X_latestFault' X (0 : Int32))) (wX_setA _) (wX_fst _) 0 3 rfl rfl rfl rfl hl.1 rfl (Nat.le_of_ble_eq_true rfl) dX3_year_93 ⟨Nat.zero_le _, Nat.zero_le _⟩ (fun H locs hP hD hS => ?_)
                have hD : va_D A (wX ad cI cO (X_latestFault' X (0 : Int32))) := hD
                refine lv_istore (lv' := [(8, .int (f_X3_refusalOfPairs (X_latestFault' X (0 : Int32)) x3 x4 x1.toNatClampNeg)), (7, .int (f_X1_faultOf ((X_sheets X) x1.toNatClampNeg) x2 x3 ((2 : Int32) * x4))), (6, .ref (ad (14 + 2 * x1.toNatClampNeg))), (0, .ref (ad 0)), (1, .int x1), (2, .int x2), (3, .int x3), (4, .int x4), (5, .int x5)]) hx hb dX3_year_96 hl (by decide) rfl (fun ls hl => ?_)
                refine lv_iload hx hb dX3_year_98 (lv_at hl 0 rfl) ?_
                refine lv_if_eq (tgt := 106) hx hb dX3_year_100 (by decide) (fun c_100 => ?_) (fun c_100 => ?_)
                · refine lv_aload_n hx hb dX3_year_106 rfl (lv_at hl 3 rfl) ?_
                  refine lv_aload hx hb dX3_year_107 (lv_at hl 2 rfl) ?_
                  refine lv_iload_n hx hb dX3_year_109 rfl (lv_at hl 6 rfl) ?_
                  refine lv_iload hx hb dX3_year_110 (lv_at hl 7 rfl) ?_
                  refine kc_V (As := [.ref (ad (14 + 2 * x1.toNatClampNeg)), .int x3, .int x4]) (rest := []) B (c_X3_firstWrongOf l D cI cO tF ad (X_latestFault' X (0 : Int32)) x3 x4 x1.toNatClampNeg (hj_7) (hn) (rf_pa c_100)) (cwV 3 hts gX3_year_X3_firstWrongOf rfl rfl rfl (by decide +kernel) ⟨Nat.le_of_ble_eq_true rfl, Nat.le_of_ble_eq_true rfl⟩) hP hD hS [0, 1, 2, 3, 4, 5, 6, 7, 8, 9, 10, 11, 12, 13, 14, 15, 16, 17, 18, 19, 20, 21] wX_subA (by decide) (w' := wX ad cI cO ((f_X3_firstWrongOf (X_latestFault' X (0 : Int32)) x3 x4 x1.toNatClampNeg).2)) (wX_setA _) (wX_fst _) 0 3 rfl rfl rfl rfl hl.1 rfl (Nat.le_of_ble_eq_true rfl) dX3_year_112 ⟨Nat.zero_le _, Nat.zero_le _⟩ (fun H locs hP hD hS => ?_)
                  have hD : va_D A (wX ad cI cO ((f_X3_firstWrongOf (X_latestFault' X (0 : Int32)) x3 x4 x1.toNatClampNeg).2)) := hD
                  refine lv_istore (lv' := [(9, .int ((f_X3_firstWrongOf (X_latestFault' X (0 : Int32)) x3 x4 x1.toNatClampNeg).1)), (8, .int (f_X3_refusalOfPairs (X_latestFault' X (0 : Int32)) x3 x4 x1.toNatClampNeg)), (7, .int (f_X1_faultOf ((X_sheets X) x1.toNatClampNeg) x2 x3 ((2 : Int32) * x4))), (6, .ref (ad (14 + 2 * x1.toNatClampNeg))), (0, .ref (ad 0)), (1, .int x1), (2, .int x2), (3, .int x3), (4, .int x4), (5, .int x5)]) hx hb dX3_year_115 hl (by decide) rfl (fun ls hl => ?_)
                  refine lv_iload hx hb dX3_year_117 (lv_at hl 9 rfl) ?_
                  refine lv_iconst (v := (1 : Int32)) hx hb dX3_year_119 (by decide) ?_
                  refine lv_icmp_ne (tgt := 126) hx hb dX3_year_120 (by decide) (fun c_120 => ?_) (fun c_120 => ?_)
                  · refine lv_iload hx hb dX3_year_126 (lv_at hl 0 rfl) ?_
                    refine lv_bipush (v := (-9 : Int32)) hx hb dX3_year_128 (by decide) ?_
                    refine lv_icmp_ne (tgt := 142) hx hb dX3_year_130 (by decide) (fun c_130 => ?_) (fun c_130 => ?_)
                    · refine lv_bipush (v := (-100 : Int32)) hx hb dX3_year_142 (by decide) ?_
                      refine lv_iload hx hb dX3_year_144 (lv_at hl 0 rfl) ?_
                      refine lv_isub hx hb dX3_year_146 ?_
                      have hF : f_X3_year X x1 x2 x3 x4 x5 = (((-100 : Int32) - (f_X3_firstWrongOf (X_latestFault' X (0 : Int32)) x3 x4 x1.toNatClampNeg).1), (f_X3_firstWrongOf (X_latestFault' X (0 : Int32)) x3 x4 x1.toNatClampNeg).2) := by rw [f_X3_year, if_pos c_7, if_neg c_23, if_neg c_28, if_neg c_35, if_neg c_43, if_pos c_64, if_neg c_81, if_pos c_100, if_neg c_120, if_neg c_130]
                      rw [hF]
                      exact kr_i B hP hS rfl rfl dX3_year_147
                    · refine lv_aload_n hx hb dX3_year_133 rfl (lv_at hl 4 rfl) ?_
                      refine lv_iload hx hb dX3_year_134 (lv_at hl 9 rfl) ?_
                      refine kc_V (As := [.int x5]) (rest := []) B (c_X3_behindYear l D cI cO tF ad ((f_X3_firstWrongOf (X_latestFault' X (0 : Int32)) x3 x4 x1.toNatClampNeg).2) x5 (fw_c hn)) (cwV 1 hts gX3_year_X3_behindYear rfl rfl rfl (by decide +kernel) ⟨Nat.le_of_ble_eq_true rfl, Nat.le_of_ble_eq_true rfl⟩) hP hD hS [0, 1, 2, 3, 4, 5, 6, 7, 8, 9, 10, 11, 12, 13, 14, 15, 16, 17, 18, 19, 20, 21] wX_subA (by decide) (w' := wX ad cI cO ((f_X3_firstWrongOf (X_latestFault' X (0 : Int32)) x3 x4 x1.toNatClampNeg).2)) (wX_setA _) (wX_fst _) 0 3 rfl rfl rfl rfl hl.1 rfl (Nat.le_of_ble_eq_true rfl) dX3_year_136 ⟨Nat.zero_le _, Nat.zero_le _⟩ (fun H locs hP hD hS => ?_)
                      have hD : va_D A (wX ad cI cO ((f_X3_firstWrongOf (X_latestFault' X (0 : Int32)) x3 x4 x1.toNatClampNeg).2)) := hD
                      refine lv_goto (tgt := 147) hx hb dX3_year_139 (by decide) ?_
                      have hF : f_X3_year X x1 x2 x3 x4 x5 = ((f_X3_behindYear ((f_X3_firstWrongOf (X_latestFault' X (0 : Int32)) x3 x4 x1.toNatClampNeg).2) x5), (f_X3_firstWrongOf (X_latestFault' X (0 : Int32)) x3 x4 x1.toNatClampNeg).2) := by rw [f_X3_year, if_pos c_7, if_neg c_23, if_neg c_28, if_neg c_35, if_neg c_43, if_pos c_64, if_neg c_81, if_pos c_100, if_neg c_120, if_pos c_130]
                      rw [hF]
                      exact kr_i B hP hS rfl rfl dX3_year_147
                  · refine lv_iload hx hb dX3_year_123 (lv_at hl 0 rfl) ?_
                    have hF : f_X3_year X x1 x2 x3 x4 x5 = ((f_X3_firstWrongOf (X_latestFault' X (0 : Int32)) x3 x4 x1.toNatClampNeg).1, (f_X3_firstWrongOf (X_latestFault' X (0 : Int32)) x3 x4 x1.toNatClampNeg).2) := by rw [f_X3_year, if_pos c_7, if_neg c_23, if_neg c_28, if_neg c_35, if_neg c_43, if_pos c_64, if_neg c_81, if_pos c_100, if_pos c_120]
                    rw [hF]
                    exact kr_i B hP hS rfl rfl dX3_year_125
                · refine lv_iload hx hb dX3_year_103 (lv_at hl 0 rfl) ?_
                  have hF : f_X3_year X x1 x2 x3 x4 x5 = ((f_X3_refusalOfPairs (X_latestFault' X (0 : Int32)) x3 x4 x1.toNatClampNeg), (X_latestFault' X (0 : Int32))) := by rw [f_X3_year, if_pos c_7, if_neg c_23, if_neg c_28, if_neg c_35, if_neg c_43, if_pos c_64, if_neg c_81, if_neg c_100]
                  rw [hF]
                  exact kr_i B hP hS rfl rfl dX3_year_105
              · refine lv_bipush (v := (-3 : Int32)) hx hb dX3_year_84 (by decide) ?_
                have hF : f_X3_year X x1 x2 x3 x4 x5 = ((-3 : Int32), (X_latestFault' X (0 : Int32))) := by rw [f_X3_year, if_pos c_7, if_neg c_23, if_neg c_28, if_neg c_35, if_neg c_43, if_pos c_64, if_pos c_81]
                rw [hF]
                exact kr_i B hP hS rfl rfl dX3_year_86
            · refine lv_aload_n hx hb dX3_year_67 rfl (lv_at hl 2 rfl) ?_
              refine lv_iload hx hb dX3_year_68 (lv_at hl 0 rfl) ?_
              refine kc_V (As := [.int (f_X1_faultOf ((X_sheets X) x1.toNatClampNeg) x2 x3 ((2 : Int32) * x4))]) (rest := []) B (c_X3_faulty l D cI cO tF ad (X_latestFault' X (0 : Int32)) (f_X1_faultOf ((X_sheets X) x1.toNatClampNeg) x2 x3 ((2 : Int32) * x4)) ) (cwV 1 hts gX3_year_X3_faulty rfl rfl rfl (by decide +kernel) ⟨Nat.le_of_ble_eq_true rfl, Nat.le_of_ble_eq_true rfl⟩) hP hD hS [0, 1, 2, 3, 4, 5, 6, 7, 8, 9, 10, 11, 12, 13, 14, 15, 16, 17, 18, 19, 20, 21] wX_subA (by decide) (w' := wX ad cI cO ((f_X3_faulty (X_latestFault' X (0 : Int32)) (f_X1_faultOf ((X_sheets X) x1.toNatClampNeg) x2 x3 ((2 : Int32) * x4))).2)) (wX_setA _) (wX_fst _) 0 3 rfl rfl rfl rfl hl.1 rfl (Nat.le_of_ble_eq_true rfl) dX3_year_70 ⟨Nat.zero_le _, Nat.zero_le _⟩ (fun H locs hP hD hS => ?_)
              have hD : va_D A (wX ad cI cO ((f_X3_faulty (X_latestFault' X (0 : Int32)) (f_X1_faultOf ((X_sheets X) x1.toNatClampNeg) x2 x3 ((2 : Int32) * x4))).2)) := hD
              have hF : f_X3_year X x1 x2 x3 x4 x5 = ((f_X3_faulty (X_latestFault' X (0 : Int32)) (f_X1_faultOf ((X_sheets X) x1.toNatClampNeg) x2 x3 ((2 : Int32) * x4))).1, (f_X3_faulty (X_latestFault' X (0 : Int32)) (f_X1_faultOf ((X_sheets X) x1.toNatClampNeg) x2 x3 ((2 : Int32) * x4))).2) := by rw [f_X3_year, if_pos c_7, if_neg c_23, if_neg c_28, if_neg c_35, if_neg c_43, if_neg c_64]
              rw [hF]
              exact kr_i B hP hS rfl rfl dX3_year_73
          · refine lv_bipush (v := (-2 : Int32)) hx hb dX3_year_46 (by decide) ?_
            have hF : f_X3_year X x1 x2 x3 x4 x5 = ((-2 : Int32), (X_latestFault' X (0 : Int32))) := by rw [f_X3_year, if_pos c_7, if_neg c_23, if_neg c_28, if_neg c_35, if_pos c_43]
            rw [hF]
            exact kr_i B hP hS rfl rfl dX3_year_48
  · refine kc_V (As := [.int x1]) (rest := []) B (c_X3_sheetAt_none l D cI cO tF ad (X_latestFault' X (0 : Int32)) x1 c_7) (cwV 1 hts gX3_year_X3_sheetAt rfl rfl rfl (by decide +kernel) ⟨Nat.le_of_ble_eq_true rfl, Nat.le_of_ble_eq_true rfl⟩) hP hD hS [0, 1, 2, 3, 4, 5, 6, 7, 8, 9, 10, 11, 12, 13, 14, 15, 16, 17, 18, 19, 20, 21] wX_subA (by decide) (w' := wX ad cI cO (X_latestFault' X (0 : Int32))) (wX_setA _) (wX_fst _) 0 3 rfl rfl rfl rfl hl.1 rfl (Nat.le_of_ble_eq_true rfl) dX3_year_7 ⟨Nat.zero_le _, Nat.zero_le _⟩ (fun H locs hP hD hS => ?_)
    have hD : va_D A (wX ad cI cO (X_latestFault' X (0 : Int32))) := hD
    refine lv_astoreN (lv' := [(6, .null), (0, .ref (ad 0)), (1, .int x1), (2, .int x2), (3, .int x3), (4, .int x4), (5, .int x5)]) hx hb dX3_year_10 hl (by decide) rfl (fun ls hl => ?_)
    refine lv_aloadN hx hb dX3_year_12 (lv_at hl 0 rfl) ?_
    refine lv_ifnonnullN hx hb dX3_year_14 ?_
    refine lv_iconst (v := (-1 : Int32)) hx hb dX3_year_17 (by decide) ?_
    have hF : f_X3_year X x1 x2 x3 x4 x5 = ((-1 : Int32), (X_latestFault' X (0 : Int32))) := by rw [f_X3_year, if_neg c_7]
    rw [hF]
    exact kr_i B hP hS rfl rfl dX3_year_18
