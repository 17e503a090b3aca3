def fL_X3_refusalOfPairs_3 (X : XS) (j : Nat) (x2 : Int32) (x3 : Int32) : Nat → Int32 → Int32
  | 0, _ => 0
  | k + 1, x4 => (if x3 ≤ x4 then (0 : Int32) else (if (f_X2_has (X_now X) (f_X1_at ((X_sheets X) j) (x2 + ((2 : Int32) * x4)))) = 0 then (-1 : Int32) else (if (f_X3_isBetween (f_X1_at ((X_sheets X) j) ((x2 + ((2 : Int32) * x4)) + (1 : Int32))) (0 : Int32) (4 : Int32)) = 0 then (-2 : Int32) else fL_X3_refusalOfPairs_3 X j x2 x3 k (x4 + (1 : Int32)))))
def f_X3_refusalOfPairs (X : XS) (x2 : Int32) (x3 : Int32) (j : Nat) : Int32 := fL_X3_refusalOfPairs_3 X j x2 x3 (x3.toInt.toNat + 1) (0 : Int32)
theorem iw_X3_refusalOfPairs_3 : ∀ w ∈ wsX30, w ∈ wsX3_refusalOfPairs := fun _ h => List.mem_cons_of_mem _ (List.mem_append_left _ (List.mem_append_left _ (List.mem_append_right _ h)))
set_option maxHeartbeats 4000000 in
set_option maxRecDepth 100000 in
theorem L_X3_refusalOfPairs_3 {p : Program} (l : Launch) {e : Env} {s : State} {m : MethodId} {args : Array Value} {below : List Frame} {meth : Method} {c : Code} {A : Nat → Prop} (D : va_G) (cI cO : ClassId) (tF : Nat) (ad : Nat → Nat) (X : XS) (j : Nat) (x2 : Int32) (x3 : Int32) (hj : j < 4) (B : Bx p s m args meth c cX3_refusalOfPairs 5 (some .int) wsX3_refusalOfPairs RX3 D cI cO tF A) : ∀ (k : Nat) (x4 : Int32), (0 ≤ x4.toInt) → ((x3.toInt - x4.toInt).toNat < k) → ∀ (H : Heap) (locs : List Loc), va_P D vwCl (wX ad cI cO X) H → va_D A (wX ad cI cO X) → va_S A s.heap H locs → ∀ ls : Array Slot, lv_has ls 5 [(0, .ref (ad 0)), (1, .ref (ad (14 + 2 * j))), (2, .int x2), (3, .int x3), (4, .int x4)] → W p l e ({ frames := 1, cells := 0, slots := 0, locals := 22 }) s m args below meth c H locs 0 0 (MQ below (Qp D (some (.int (fL_X3_refusalOfPairs_3 X j x2 x3 k x4))) (wX ad cI cO X) A) args s 0 0 A) (F0 m 3 ls []) := by
  obtain ⟨hx, hb, hret, hml, hts, hown, hlocks, hE, hA⟩ := id B
  have hK := hE.1
  intro k
  induction k with
  | zero =>
    intro x4 h0 hk
    exact absurd hk (Nat.not_lt_zero _)
  | succ k ih =>
    intro x4 h0 hk H locs hP hD hS ls hl
    refine lv_iload hx hb dX3_refusalOfPairs_3 (lv_at hl 4 rfl) ?_
    refine lv_iload_n hx hb dX3_refusalOfPairs_5 rfl (lv_at hl 3 rfl) ?_
    refine lv_icmp_ge (tgt := 60) hx hb dX3_refusalOfPairs_6 (by decide) (fun c_6 => ?_) (fun c_6 => ?_)
    · refine lv_iconst (v := (0 : Int32)) hx hb dX3_refusalOfPairs_60 (by decide) ?_
      have hF : fL_X3_refusalOfPairs_3 X j x2 x3 (k + 1) x4 = (0 : Int32) := by rw [fL_X3_refusalOfPairs_3, if_pos c_6]
      rw [hF]
      exact kr_i B hP hS rfl rfl dX3_refusalOfPairs_61
    · refine lv_aload_n hx hb dX3_refusalOfPairs_9 rfl (lv_at hl 0 rfl) ?_
      refine va_get (D := D) (ci := 3) (v := .ref (ad 2)) (C := RX3) (T := TX3) (N := 7) hx hb hts iw_X3_refusalOfPairs_3 hown hK hP 0 rfl rfl 1 (by decide) (hts (.fieldLink RX3 20 "TownLisp" "now" "LTownLisp$Town;") (by decide +kernel)) (fun _ h9 => h9) rfl dX3_refusalOfPairs_10 ?_
      refine lv_aload_n hx hb dX3_refusalOfPairs_13 rfl (lv_at hl 1 rfl) ?_
      refine lv_iload_n hx hb dX3_refusalOfPairs_14 rfl (lv_at hl 2 rfl) ?_
      refine lv_iconst (v := (2 : Int32)) hx hb dX3_refusalOfPairs_15 (by decide) ?_
      refine lv_iload hx hb dX3_refusalOfPairs_16 (lv_at hl 4 rfl) ?_
      refine lv_imul hx hb dX3_refusalOfPairs_18 ?_
      refine lv_iadd hx hb dX3_refusalOfPairs_19 ?_
      refine kc_V (As := [.int (x2 + ((2 : Int32) * x4))]) (rest := [.ref (ad 2)]) B (c_X1_at l D cI cO tF (ad (14 + 2 * j)) (ad (15 + 2 * j)) ((X_sheets X) j) (x2 + ((2 : Int32) * x4)) ) (cwV 1 hts gX3_refusalOfPairs_X1_at rfl rfl rfl (by decide +kernel) ⟨Nat.le_of_ble_eq_true rfl, Nat.le_of_ble_eq_true rfl⟩) hP hD hS [14 + 2 * j, 15 + 2 * j] (wX_subC hj) (nd_s _) (w' := wX ad cI cO X) (wX_same hj) rfl (14 + 2 * j) 1 rfl (wX_sheet hj) rfl rfl hl.1 rfl (Nat.le_of_ble_eq_true rfl) dX3_refusalOfPairs_20 ⟨Nat.zero_le _, Nat.zero_le _⟩ (fun H locs hP hD hS => ?_)
      have hD : va_D A (wX ad cI cO X) := hD
      refine kc_V (As := [.int (f_X1_at ((X_sheets X) j) (x2 + ((2 : Int32) * x4)))]) (rest := []) B (c_X2_has l D cI cO tF (ad 2) (ad 3) (ad 4) (ad 5) (X_now X) (f_X1_at ((X_sheets X) j) (x2 + ((2 : Int32) * x4))) ) (cwV 1 hts gX3_refusalOfPairs_X2_has rfl rfl rfl (by decide +kernel) ⟨Nat.le_of_ble_eq_true rfl, Nat.le_of_ble_eq_true rfl⟩) hP hD hS [2, 3, 4, 5] wX_subN (by decide) (w' := wX ad cI cO X) (wX_sameN) rfl 2 2 rfl rfl rfl rfl hl.1 rfl (Nat.le_of_ble_eq_true rfl) dX3_refusalOfPairs_23 ⟨Nat.zero_le _, Nat.zero_le _⟩ (fun H locs hP hD hS => ?_)
      have hD : va_D A (wX ad cI cO X) := hD
      refine lv_if_ne (tgt := 31) hx hb dX3_refusalOfPairs_26 (by decide) (fun c_26 => ?_) (fun c_26 => ?_)
      · refine lv_aload_n hx hb dX3_refusalOfPairs_31 rfl (lv_at hl 1 rfl) ?_
        refine lv_iload_n hx hb dX3_refusalOfPairs_32 rfl (lv_at hl 2 rfl) ?_
        refine lv_iconst (v := (2 : Int32)) hx hb dX3_refusalOfPairs_33 (by decide) ?_
        refine lv_iload hx hb dX3_refusalOfPairs_34 (lv_at hl 4 rfl) ?_
        refine lv_imul hx hb dX3_refusalOfPairs_36 ?_
        refine lv_iadd hx hb dX3_refusalOfPairs_37 ?_
        refine lv_iconst (v := (1 : Int32)) hx hb dX3_refusalOfPairs_38 (by decide) ?_
        refine lv_iadd hx hb dX3_refusalOfPairs_39 ?_
        refine kc_V (As := [.int ((x2 + ((2 : Int32) * x4)) + (1 : Int32))]) (rest := []) B (c_X1_at l D cI cO tF (ad (14 + 2 * j)) (ad (15 + 2 * j)) ((X_sheets X) j) ((x2 + ((2 : Int32) * x4)) + (1 : Int32)) ) (cwV 1 hts gX3_refusalOfPairs_X1_at rfl rfl rfl (by decide +kernel) ⟨Nat.le_of_ble_eq_true rfl, Nat.le_of_ble_eq_true rfl⟩) hP hD hS [14 + 2 * j, 15 + 2 * j] (wX_subC hj) (nd_s _) (w' := wX ad cI cO X) (wX_same hj) rfl (14 + 2 * j) 1 rfl (wX_sheet hj) rfl rfl hl.1 rfl (Nat.le_of_ble_eq_true rfl) dX3_refusalOfPairs_40 ⟨Nat.zero_le _, Nat.zero_le _⟩ (fun H locs hP hD hS => ?_)
        have hD : va_D A (wX ad cI cO X) := hD
        refine lv_iconst (v := (0 : Int32)) hx hb dX3_refusalOfPairs_43 (by decide) ?_
        refine lv_iconst (v := (4 : Int32)) hx hb dX3_refusalOfPairs_44 (by decide) ?_
        refine kc_S (As := [.int (f_X1_at ((X_sheets X) j) ((x2 + ((2 : Int32) * x4)) + (1 : Int32))), .int (0 : Int32), .int (4 : Int32)]) (rest := []) B (c_X3_isBetween l D cI cO tF (f_X1_at ((X_sheets X) j) ((x2 + ((2 : Int32) * x4)) + (1 : Int32))) (0 : Int32) (4 : Int32) ) (va_cwS 3 hts gX3_refusalOfPairs_X3_isBetween rfl rfl rfl (by decide +kernel) ⟨Nat.le_of_ble_eq_true rfl, Nat.le_of_ble_eq_true rfl⟩) hP hD hS [] rfl (by decide) (w' := wX ad cI cO X) rfl rfl rfl hl.1 rfl (Nat.le_of_ble_eq_true rfl) dX3_refusalOfPairs_45 ⟨Nat.zero_le _, Nat.zero_le _⟩ (fun H locs hP hD hS => ?_)
        have hD : va_D A (wX ad cI cO X) := hD
        refine lv_if_ne (tgt := 54) hx hb dX3_refusalOfPairs_48 (by decide) (fun c_48 => ?_) (fun c_48 => ?_)
        · refine lv_iinc (v := (x4 + (1 : Int32))) (lv' := [(4, .int (x4 + (1 : Int32))), (0, .ref (ad 0)), (1, .ref (ad (14 + 2 * j))), (2, .int x2), (3, .int x3)]) hx hb dX3_refusalOfPairs_54 hl (k := 4) rfl rfl (by decide) rfl (fun ls hl => ?_)
          refine lv_goto (tgt := 3) hx hb dX3_refusalOfPairs_57 (by decide) ?_
          have hF : fL_X3_refusalOfPairs_3 X j x2 x3 (k + 1) x4 = fL_X3_refusalOfPairs_3 X j x2 x3 k (x4 + (1 : Int32)) := by rw [fL_X3_refusalOfPairs_3, if_neg c_6, if_neg c_26, if_neg c_48]
          rw [hF]
          exact ih (x4 + (1 : Int32)) (lp_pre h0 c_6) (lp_mu h0 c_6 hk) _ _ hP hD hS ls (lv_sub hl [1, 2, 3, 4, 0] rfl)
        · refine lv_bipush (v := (-2 : Int32)) hx hb dX3_refusalOfPairs_51 (by decide) ?_
          have hF : fL_X3_refusalOfPairs_3 X j x2 x3 (k + 1) x4 = (-2 : Int32) := by rw [fL_X3_refusalOfPairs_3, if_neg c_6, if_neg c_26, if_pos c_48]
          rw [hF]
          exact kr_i B hP hS rfl rfl dX3_refusalOfPairs_53
      · refine lv_iconst (v := (-1 : Int32)) hx hb dX3_refusalOfPairs_29 (by decide) ?_
        have hF : fL_X3_refusalOfPairs_3 X j x2 x3 (k + 1) x4 = (-1 : Int32) := by rw [fL_X3_refusalOfPairs_3, if_neg c_6, if_pos c_26]
        rw [hF]
        exact kr_i B hP hS rfl rfl dX3_refusalOfPairs_30
set_option maxHeartbeats 4000000 in
set_option maxRecDepth 100000 in
theorem c_X3_refusalOfPairs (l : Launch) (D : va_G) (cI cO : ClassId) (tF : Nat) (ad : Nat → Nat) (X : XS) (x2 : Int32) (x3 : Int32) (j : Nat) (hj : j < 4) : Ct l yX3_refusalOfPairs wsX3_refusalOfPairs ({ frames := 1, cells := 0, slots := 0, locals := 22 }) D cI cO tF [.ref (ad 0), .ref (ad (14 + 2 * j)), .int x2, .int x3] (wX ad cI cO X) (some (.int (f_X3_refusalOfPairs X x2 x3 j))) (wX ad cI cO X) := by
  refine Ct.of (cc := cX3_refusalOfPairs) (maxL := 5) (ret := (some .int)) (own := RX3) (by decide) rfl rfl (Nat.le_of_ble_eq_true rfl) ?_
  intro p e s m args below meth c A ls B hP hD hS hl
  obtain ⟨hx, hb, hret, hml, hts, hown, hlocks, hE, hA⟩ := id B
  have hK := hE.1
  have hl : lv_has ls 5 [(0, .ref (ad 0)), (1, .ref (ad (14 + 2 * j))), (2, .int x2), (3, .int x3)] := hl
  refine lv_iconst (v := (0 : Int32)) hx hb dX3_refusalOfPairs_0 (by decide) ?_
  refine lv_istore (lv' := [(4, .int (0 : Int32)), (0, .ref (ad 0)), (1, .ref (ad (14 + 2 * j))), (2, .int x2), (3, .int x3)]) hx hb dX3_refusalOfPairs_1 hl (by decide) rfl (fun ls hl => ?_)
  have hF : f_X3_refusalOfPairs X x2 x3 j = fL_X3_refusalOfPairs_3 X j x2 x3 (x3.toInt.toNat + 1) (0 : Int32) := by rw [f_X3_refusalOfPairs]
  rw [hF]
  exact L_X3_refusalOfPairs_3 l D cI cO tF ad X j x2 x3 hj B  (x3.toInt.toNat + 1) (0 : Int32) (Int.le_refl _) (by rw [show (0 : Int32).toInt = 0 from rfl]; omega) _ _ hP hD hS ls (lv_sub hl [1, 2, 3, 4, 0] rfl)
def fL_X3_firstWrongOf_14 (X : XS) (j : Nat) (x2 : Int32) (x3 : Int32) : Nat → Int32 → TN → Int32 × XS
  | 0, _, v_X_then => (0, (X_then' X v_X_then))
  | k + 1, x4, v_X_then => (if x3 ≤ x4 then ((-9 : Int32), (X_then' X v_X_then)) else (if (f_X2_acts v_X_then (f_X1_at ((X_sheets X) j) (x2 + ((2 : Int32) * x4))) (f_X1_at ((X_sheets X) j) ((x2 + ((2 : Int32) * x4)) + (1 : Int32)))).1 = (-3 : Int32) then (x4, (X_then' X (f_X2_acts v_X_then (f_X1_at ((X_sheets X) j) (x2 + ((2 : Int32) * x4))) (f_X1_at ((X_sheets X) j) ((x2 + ((2 : Int32) * x4)) + (1 : Int32)))).2)) else fL_X3_firstWrongOf_14 X j x2 x3 k (x4 + (1 : Int32)) ((f_X2_acts v_X_then (f_X1_at ((X_sheets X) j) (x2 + ((2 : Int32) * x4))) (f_X1_at ((X_sheets X) j) ((x2 + ((2 : Int32) * x4)) + (1 : Int32)))).2)))
def f_X3_firstWrongOf (X : XS) (x2 : Int32) (x3 : Int32) (j : Nat) : Int32 × XS := fL_X3_firstWrongOf_14 X j x2 x3 (x3.toInt.toNat + 1) (0 : Int32) (f_X2_becomeLike (X_then X) (X_now X))
theorem iw_X3_firstWrongOf_3 : ∀ w ∈ wsX30, w ∈ wsX3_firstWrongOf := fun _ h => List.mem_cons_of_mem _ (List.mem_append_left _ (List.mem_append_left _ (List.mem_append_right _ h)))
set_option maxHeartbeats 4000000 in
set_option maxRecDepth 100000 in
theorem L_X3_firstWrongOf_14 {p : Program} (l : Launch) {e : Env} {s : State} {m : MethodId} {args : Array Value} {below : List Frame} {meth : Method} {c : Code} {A : Nat → Prop} (D : va_G) (cI cO : ClassId) (tF : Nat) (ad : Nat → Nat) (X : XS) (j : Nat) (x2 : Int32) (x3 : Int32) (hj : j < 4) (hn : (T_count (X_now X)).toInt ≤ 6) (hpa : ∀ r : Int32, 0 ≤ r.toInt → ¬ x3 ≤ r → vp_in (f_X1_at (X_sheets X j) (x2 + ((2 : Int32) * r))) 6) (B : Bx p s m args meth c cX3_firstWrongOf 5 (some .int) wsX3_firstWrongOf RX3 D cI cO tF A) : ∀ (k : Nat) (x4 : Int32) (v_X_then : TN), ((T_count v_X_then).toInt ≤ 6) → (0 ≤ x4.toInt) → ((x3.toInt - x4.toInt).toNat < k) → ∀ (H : Heap) (locs : List Loc), va_P D vwCl (wX ad cI cO (X_then' X v_X_then)) H → va_D A (wX ad cI cO (X_then' X v_X_then)) → va_S A s.heap H locs → ∀ ls : Array Slot, lv_has ls 5 [(0, .ref (ad 0)), (1, .ref (ad (14 + 2 * j))), (2, .int x2), (3, .int x3), (4, .int x4)] → W p l e ({ frames := 5, cells := 0, slots := 0, locals := 115 }) s m args below meth c H locs 0 0 (MQ below (Qp D (some (.int ((fL_X3_firstWrongOf_14 X j x2 x3 k x4 v_X_then).1))) (wX ad cI cO ((fL_X3_firstWrongOf_14 X j x2 x3 k x4 v_X_then).2)) A) args s 0 0 A) (F0 m 14 ls []) := by
  obtain ⟨hx, hb, hret, hml, hts, hown, hlocks, hE, hA⟩ := id B
  have hK := hE.1
  intro k
  induction k with
  | zero =>
    intro x4 v_X_then hc h0 hk
    exact absurd hk (Nat.not_lt_zero _)
  | succ k ih =>
    intro x4 v_X_then hc h0 hk H locs hP hD hS ls hl
    refine lv_iload hx hb dX3_firstWrongOf_14 (lv_at hl 4 rfl) ?_
    refine lv_iload_n hx hb dX3_firstWrongOf_16 rfl (lv_at hl 3 rfl) ?_
    refine lv_icmp_ge (tgt := 63) hx hb dX3_firstWrongOf_17 (by decide) (fun c_17 => ?_) (fun c_17 => ?_)
    · refine lv_bipush (v := (-9 : Int32)) hx hb dX3_firstWrongOf_63 (by decide) ?_
      have hF : fL_X3_firstWrongOf_14 X j x2 x3 (k + 1) x4 v_X_then = ((-9 : Int32), (X_then' X v_X_then)) := by rw [fL_X3_firstWrongOf_14, if_pos c_17]
      rw [hF]
      exact kr_i B hP hS rfl rfl dX3_firstWrongOf_65
    · refine lv_aload_n hx hb dX3_firstWrongOf_20 rfl (lv_at hl 0 rfl) ?_
      refine va_get (D := D) (ci := 3) (v := .ref (ad 6)) (C := RX3) (T := TX3) (N := 7) hx hb hts iw_X3_firstWrongOf_3 hown hK hP 0 rfl rfl 2 (by decide) (hts (.fieldLink RX3 24 "TownLisp" "then" "LTownLisp$Town;") (by decide +kernel)) (fun _ h9 => h9) rfl dX3_firstWrongOf_21 ?_
      refine lv_aload_n hx hb dX3_firstWrongOf_24 rfl (lv_at hl 1 rfl) ?_
      refine lv_iload_n hx hb dX3_firstWrongOf_25 rfl (lv_at hl 2 rfl) ?_
      refine lv_iconst (v := (2 : Int32)) hx hb dX3_firstWrongOf_26 (by decide) ?_
      refine lv_iload hx hb dX3_firstWrongOf_27 (lv_at hl 4 rfl) ?_
      refine lv_imul hx hb dX3_firstWrongOf_29 ?_
      refine lv_iadd hx hb dX3_firstWrongOf_30 ?_
      refine kc_V (As := [.int (x2 + ((2 : Int32) * x4))]) (rest := [.ref (ad 6)]) B (c_X1_at l D cI cO tF (ad (14 + 2 * j)) (ad (15 + 2 * j)) ((X_sheets X) j) (x2 + ((2 : Int32) * x4)) ) (cwV 1 hts gX3_firstWrongOf_X1_at rfl rfl rfl (by decide +kernel) ⟨Nat.le_of_ble_eq_true rfl, Nat.le_of_ble_eq_true rfl⟩) hP hD hS [14 + 2 * j, 15 + 2 * j] (wX_subC hj) (nd_s _) (w' := wX ad cI cO (X_then' X v_X_then)) (wX_same hj) rfl (14 + 2 * j) 1 rfl (wX_sheet hj) rfl rfl hl.1 rfl (Nat.le_of_ble_eq_true rfl) dX3_firstWrongOf_31 ⟨Nat.zero_le _, Nat.zero_le _⟩ (fun H locs hP hD hS => ?_)
      have hD : va_D A (wX ad cI cO (X_then' X v_X_then)) := hD
      refine lv_aload_n hx hb dX3_firstWrongOf_34 rfl (lv_at hl 1 rfl) ?_
      refine lv_iload_n hx hb dX3_firstWrongOf_35 rfl (lv_at hl 2 rfl) ?_
      refine lv_iconst (v := (2 : Int32)) hx hb dX3_firstWrongOf_36 (by decide) ?_
      refine lv_iload hx hb dX3_firstWrongOf_37 (lv_at hl 4 rfl) ?_
      refine lv_imul hx hb dX3_firstWrongOf_39 ?_
      refine lv_iadd hx hb dX3_firstWrongOf_40 ?_
      refine lv_iconst (v := (1 : Int32)) hx hb dX3_firstWrongOf_41 (by decide) ?_
      refine lv_iadd hx hb dX3_firstWrongOf_42 ?_
      refine kc_V (As := [.int ((x2 + ((2 : Int32) * x4)) + (1 : Int32))]) (rest := [.int (f_X1_at ((X_sheets X) j) (x2 + ((2 : Int32) * x4))), .ref (ad 6)]) B (c_X1_at l D cI cO tF (ad (14 + 2 * j)) (ad (15 + 2 * j)) ((X_sheets X) j) ((x2 + ((2 : Int32) * x4)) + (1 : Int32)) ) (cwV 1 hts gX3_firstWrongOf_X1_at rfl rfl rfl (by decide +kernel) ⟨Nat.le_of_ble_eq_true rfl, Nat.le_of_ble_eq_true rfl⟩) hP hD hS [14 + 2 * j, 15 + 2 * j] (wX_subC hj) (nd_s _) (w' := wX ad cI cO (X_then' X v_X_then)) (wX_same hj) rfl (14 + 2 * j) 1 rfl (wX_sheet hj) rfl rfl hl.1 rfl (Nat.le_of_ble_eq_true rfl) dX3_firstWrongOf_43 ⟨Nat.zero_le _, Nat.zero_le _⟩ (fun H locs hP hD hS => ?_)
      have hD : va_D A (wX ad cI cO (X_then' X v_X_then)) := hD
      refine kc_V (As := [.int (f_X1_at ((X_sheets X) j) (x2 + ((2 : Int32) * x4))), .int (f_X1_at ((X_sheets X) j) ((x2 + ((2 : Int32) * x4)) + (1 : Int32)))]) (rest := []) B (c_X2_acts l D cI cO tF (ad 6) (ad 7) (ad 8) (ad 9) v_X_then (f_X1_at ((X_sheets X) j) (x2 + ((2 : Int32) * x4))) (f_X1_at ((X_sheets X) j) ((x2 + ((2 : Int32) * x4)) + (1 : Int32))) (hc) (hpa _ h0 c_17)) (cwV 2 hts gX3_firstWrongOf_X2_acts rfl rfl rfl (by decide +kernel) ⟨Nat.le_of_ble_eq_true rfl, Nat.le_of_ble_eq_true rfl⟩) hP hD hS [6, 7, 8, 9] wX_subH (by decide) (w' := wX ad cI cO (X_then' X (f_X2_acts v_X_then (f_X1_at ((X_sheets X) j) (x2 + ((2 : Int32) * x4))) (f_X1_at ((X_sheets X) j) ((x2 + ((2 : Int32) * x4)) + (1 : Int32)))).2)) (wX_setH _) rfl 6 2 rfl rfl rfl rfl hl.1 rfl (Nat.le_of_ble_eq_true rfl) dX3_firstWrongOf_46 ⟨Nat.zero_le _, Nat.zero_le _⟩ (fun H locs hP hD hS => ?_)
      have hD : va_D A (wX ad cI cO (X_then' X (f_X2_acts v_X_then (f_X1_at ((X_sheets X) j) (x2 + ((2 : Int32) * x4))) (f_X1_at ((X_sheets X) j) ((x2 + ((2 : Int32) * x4)) + (1 : Int32)))).2)) := hD
      refine lv_bipush (v := (-3 : Int32)) hx hb dX3_firstWrongOf_49 (by decide) ?_
      refine lv_icmp_ne (tgt := 57) hx hb dX3_firstWrongOf_51 (by decide) (fun c_51 => ?_) (fun c_51 => ?_)
      · refine lv_iinc (v := (x4 + (1 : Int32))) (lv' := [(4, .int (x4 + (1 : Int32))), (0, .ref (ad 0)), (1, .ref (ad (14 + 2 * j))), (2, .int x2), (3, .int x3)]) hx hb dX3_firstWrongOf_57 hl (k := 4) rfl rfl (by decide) rfl (fun ls hl => ?_)
        refine lv_goto (tgt := 14) hx hb dX3_firstWrongOf_60 (by decide) ?_
        have hF : fL_X3_firstWrongOf_14 X j x2 x3 (k + 1) x4 v_X_then = fL_X3_firstWrongOf_14 X j x2 x3 k (x4 + (1 : Int32)) ((f_X2_acts v_X_then (f_X1_at ((X_sheets X) j) (x2 + ((2 : Int32) * x4))) (f_X1_at ((X_sheets X) j) ((x2 + ((2 : Int32) * x4)) + (1 : Int32)))).2) := by rw [fL_X3_firstWrongOf_14, if_neg c_17, if_neg c_51]
        rw [hF]
        exact ih (x4 + (1 : Int32)) ((f_X2_acts v_X_then (f_X1_at ((X_sheets X) j) (x2 + ((2 : Int32) * x4))) (f_X1_at ((X_sheets X) j) ((x2 + ((2 : Int32) * x4)) + (1 : Int32)))).2) (acts_c hc) (lp_pre h0 c_17) (lp_mu h0 c_17 hk) _ _ hP hD hS ls (lv_sub hl [1, 2, 3, 4, 0] rfl)
      · refine lv_iload hx hb dX3_firstWrongOf_54 (lv_at hl 4 rfl) ?_
        have hF : fL_X3_firstWrongOf_14 X j x2 x3 (k + 1) x4 v_X_then = (x4, (X_then' X (f_X2_acts v_X_then (f_X1_at ((X_sheets X) j) (x2 + ((2 : Int32) * x4))) (f_X1_at ((X_sheets X) j) ((x2 + ((2 : Int32) * x4)) + (1 : Int32)))).2)) := by rw [fL_X3_firstWrongOf_14, if_neg c_17, if_pos c_51]
        rw [hF]
        exact kr_i B hP hS rfl rfl dX3_firstWrongOf_56
set_option maxHeartbeats 4000000 in
set_option maxRecDepth 100000 in
theorem c_X3_firstWrongOf (l : Launch) (D : va_G) (cI cO : ClassId) (tF : Nat) (ad : Nat → Nat) (X : XS) (x2 : Int32) (x3 : Int32) (j : Nat) (hj : j < 4) (hn : (T_count (X_now X)).toInt ≤ 6) (hpa : ∀ r : Int32, 0 ≤ r.toInt → ¬ x3 ≤ r → vp_in (f_X1_at (X_sheets X j) (x2 + ((2 : Int32) * r))) 6) : Ct l yX3_firstWrongOf wsX3_firstWrongOf ({ frames := 5, cells := 0, slots := 0, locals := 115 }) D cI cO tF [.ref (ad 0), .ref (ad (14 + 2 * j)), .int x2, .int x3] (wX ad cI cO X) (some (.int ((f_X3_firstWrongOf X x2 x3 j).1))) (wX ad cI cO ((f_X3_firstWrongOf X x2 x3 j).2)) := by
  refine Ct.of (cc := cX3_firstWrongOf) (maxL := 5) (ret := (some .int)) (own := RX3) (by decide) rfl rfl (Nat.le_of_ble_eq_true rfl) ?_
  intro p e s m args below meth c A ls B hP hD hS hl
  obtain ⟨hx, hb, hret, hml, hts, hown, hlocks, hE, hA⟩ := id B
  have hK := hE.1
  have hl : lv_has ls 5 [(0, .ref (ad 0)), (1, .ref (ad (14 + 2 * j))), (2, .int x2), (3, .int x3)] := hl
  refine lv_aload_n hx hb dX3_firstWrongOf_0 rfl (lv_at hl 0 rfl) ?_
  refine va_get (D := D) (ci := 3) (v := .ref (ad 6)) (C := RX3) (T := TX3) (N := 7) hx hb hts iw_X3_firstWrongOf_3 hown hK hP 0 rfl rfl 2 (by decide) (hts (.fieldLink RX3 24 "TownLisp" "then" "LTownLisp$Town;") (by decide +kernel)) (fun _ h9 => h9) rfl dX3_firstWrongOf_1 ?_
  refine lv_aload_n hx hb dX3_firstWrongOf_4 rfl (lv_at hl 0 rfl) ?_
  refine va_get (D := D) (ci := 3) (v := .ref (ad 2)) (C := RX3) (T := TX3) (N := 7) hx hb hts iw_X3_firstWrongOf_3 hown hK hP 0 rfl rfl 1 (by decide) (hts (.fieldLink RX3 20 "TownLisp" "now" "LTownLisp$Town;") (by decide +kernel)) (fun _ h9 => h9) rfl dX3_firstWrongOf_5 ?_
  refine kc_V (As := [.ref (ad 2)]) (rest := []) B (c_X2_becomeLike l D cI cO tF (ad 6) (ad 7) (ad 8) (ad 9) (ad 2) (ad 3) (ad 4) (ad 5) (X_then X) (X_now X) (hn)) (cwV 1 hts gX3_firstWrongOf_X2_becomeLike rfl rfl rfl (by decide +kernel) ⟨Nat.le_of_ble_eq_true rfl, Nat.le_of_ble_eq_true rfl⟩) hP hD hS [6, 7, 8, 9, 2, 3, 4, 5] wX_subHN (by decide) (w' := wX ad cI cO (X_then' X (f_X2_becomeLike (X_then X) (X_now X)))) (wX_setHN _) rfl 6 2 rfl rfl rfl rfl hl.1 rfl (Nat.le_of_ble_eq_true rfl) dX3_firstWrongOf_8 ⟨Nat.zero_le _, Nat.zero_le _⟩ (fun H locs hP hD hS => ?_)
  have hD : va_D A (wX ad cI cO (X_then' X (f_X2_becomeLike (X_then X) (X_now X)))) := hD
  refine lv_iconst (v := (0 : Int32)) hx hb dX3_firstWrongOf_11 (by decide) ?_
  refine lv_istore (lv' := [(4, .int (0 : Int32)), (0, .ref (ad 0)), (1, .ref (ad (14 + 2 * j))), (2, .int x2), (3, .int x3)]) hx hb dX3_firstWrongOf_12 hl (by decide) rfl (fun ls hl => ?_)
  have hF : f_X3_firstWrongOf X x2 x3 j = fL_X3_firstWrongOf_14 X j x2 x3 (x3.toInt.toNat + 1) (0 : Int32) (f_X2_becomeLike (X_then X) (X_now X)) := by rw [f_X3_firstWrongOf]
  rw [hF]
  exact L_X3_firstWrongOf_14 l D cI cO tF ad X j x2 x3 hj hn hpa B  (x3.toInt.toNat + 1) (0 : Int32) (f_X2_becomeLike (X_then X) (X_now X)) (bl_c hn) (Int.le_refl _) (by rw [show (0 : Int32).toInt = 0 from rfl]; omega) _ _ hP hD hS ls (lv_sub hl [1, 2, 3, 4, 0] rfl)
