def fL_X4_sheet_57 (M : MS) (x1 : Int32) (x2 : Int32) (x3 : Int32) : Nat → Int32 → MS → Int32 × MS
  | 0, _, v_M => (0, v_M)
  | k + 1, x4, v_M => (if (60 : Int32) ≤ x4 then ((1 : Int32), v_M) else fL_X4_sheet_57 M x1 x2 x3 k (x4 + (1 : Int32)) (M_cells' v_M (upd (M_cells v_M) (((60 : Int32) * x1) + x4).toNatClampNeg (0 : Int32))))
def f_X4_sheet (M : MS) (x1 : Int32) (x2 : Int32) (x3 : Int32) : Int32 × MS := (if (f_X4_isSheet x1) = 0 then ((-1 : Int32), (M_fault' M (0 : Int32))) else (if (f_X4_isSort x2) = 0 then ((-2 : Int32), (M_fault' M (0 : Int32))) else (if x3 ≤ (60 : Int32) then (if 0 ≤ x3 then fL_X4_sheet_57 M x1 x2 x3 61 (0 : Int32) (M_sheetLong' (M_sorts' (M_fault' M (0 : Int32)) (upd (M_sorts M) x1.toNatClampNeg x2)) (upd (M_sheetLong M) x1.toNatClampNeg x3)) else ((f_X4_fails (M_fault' M (0 : Int32)) (4 : Int32)).1, (f_X4_fails (M_fault' M (0 : Int32)) (4 : Int32)).2)) else ((-2 : Int32), (M_fault' M (0 : Int32))))))
theorem iw_X4_sheet_4 : ∀ w ∈ wsX40, w ∈ wsX4_sheet := fun _ h => List.mem_cons_of_mem _ (List.mem_append_right _ h)
set_option maxHeartbeats 4000000 in
set_option maxRecDepth 100000 in
theorem L_X4_sheet_57 {p : Program} (l : Launch) {e : Env} {s : State} {m : MethodId} {args : Array Value} {below : List Frame} {meth : Method} {c : Code} {A : Nat → Prop} (D : va_G) (cI cO : ClassId) (tF : Nat) (ad : Nat → Nat) (M : MS) (x1 : Int32) (x2 : Int32) (x3 : Int32) (B : Bx p s m args meth c cX4_sheet 5 (some .int) wsX4_sheet RX4 D cI cO tF A) (hs : vp_in x1 4) : ∀ (k : Nat) (x4 : Int32) (v_M : MS), (0 ≤ x4.toInt) → (((60 : Int32).toInt - x4.toInt).toNat < k) → ∀ (H : Heap) (locs : List Loc), va_P D vwCl (wM ad cI v_M) H → va_D A (wM ad cI v_M) → va_S A s.heap H locs → ∀ ls : Array Slot, lv_has ls 5 [(0, .ref (ad 0)), (1, .int x1), (2, .int x2), (3, .int x3), (4, .int x4)] → W p l e ({ frames := 2, cells := 0, slots := 0, locals := 42 }) s m args below meth c H locs 0 0 (MQ below (Qp D (some (.int ((fL_X4_sheet_57 M x1 x2 x3 k x4 v_M).1))) (wM ad cI ((fL_X4_sheet_57 M x1 x2 x3 k x4 v_M).2)) A) args s 0 0 A) (F0 m 57 ls []) := by
  obtain ⟨hx, hb, hret, hml, hts, hown, hlocks, hE, hA⟩ := id B
  have hK := hE.1
  intro k
  induction k with
  | zero =>
    intro x4 v_M h0 hk
    exact absurd hk (Nat.not_lt_zero _)
  | succ k ih =>
    intro x4 v_M h0 hk H locs hP hD hS ls hl
    refine lv_iload hx hb dX4_sheet_57 (lv_at hl 4 rfl) ?_
    refine lv_bipush (v := (60 : Int32)) hx hb dX4_sheet_59 (by decide) ?_
    refine lv_icmp_ge (tgt := 83) hx hb dX4_sheet_61 (by decide) (fun c_61 => ?_) (fun c_61 => ?_)
    · refine lv_iconst (v := (1 : Int32)) hx hb dX4_sheet_83 (by decide) ?_
      have hF : fL_X4_sheet_57 M x1 x2 x3 (k + 1) x4 v_M = ((1 : Int32), v_M) := by rw [fL_X4_sheet_57, if_pos c_61]
      rw [hF]
      exact kr_i B hP hS rfl rfl dX4_sheet_84
    · refine lv_aload_n hx hb dX4_sheet_64 rfl (lv_at hl 0 rfl) ?_
      refine va_get (D := D) (ci := 4) (v := .ref (ad 3)) (C := RX4) (T := TX4) (N := 24) hx hb hts iw_X4_sheet_4 hown hK hP 0 rfl rfl 4 (by decide) (hts (.fieldLink RX4 16 "TownLispModel" "cells" "[I") (by decide +kernel)) (fun _ h9 => h9) rfl dX4_sheet_65 ?_
      refine lv_bipush (v := (60 : Int32)) hx hb dX4_sheet_68 (by decide) ?_
      refine lv_iload_n hx hb dX4_sheet_70 rfl (lv_at hl 1 rfl) ?_
      refine lv_imul hx hb dX4_sheet_71 ?_
      refine lv_iload hx hb dX4_sheet_72 (lv_at hl 4 rfl) ?_
      refine lv_iadd hx hb dX4_sheet_74 ?_
      refine lv_iconst (v := (0 : Int32)) hx hb dX4_sheet_75 (by decide) ?_
      refine va_iast hx hb hK hP hD hS 3 0 rfl rfl (cell_in hs h0 c_61) dX4_sheet_76 (fun H locs hP hD hS => ?_)
      have hP : va_P D vwCl (wM ad cI (M_cells' v_M (upd (M_cells v_M) (((60 : Int32) * x1) + x4).toNatClampNeg (0 : Int32)))) H := hP
      have hD : va_D A (wM ad cI (M_cells' v_M (upd (M_cells v_M) (((60 : Int32) * x1) + x4).toNatClampNeg (0 : Int32)))) := hD
      refine lv_iinc (v := (x4 + (1 : Int32))) (lv' := [(4, .int (x4 + (1 : Int32))), (0, .ref (ad 0)), (1, .int x1), (2, .int x2), (3, .int x3)]) hx hb dX4_sheet_77 hl (k := 4) rfl rfl (by decide) rfl (fun ls hl => ?_)
      refine lv_goto (tgt := 57) hx hb dX4_sheet_80 (by decide) ?_
      have hF : fL_X4_sheet_57 M x1 x2 x3 (k + 1) x4 v_M = fL_X4_sheet_57 M x1 x2 x3 k (x4 + (1 : Int32)) (M_cells' v_M (upd (M_cells v_M) (((60 : Int32) * x1) + x4).toNatClampNeg (0 : Int32))) := by rw [fL_X4_sheet_57, if_neg c_61]
      rw [hF]
      exact ih (x4 + (1 : Int32)) (M_cells' v_M (upd (M_cells v_M) (((60 : Int32) * x1) + x4).toNatClampNeg (0 : Int32))) (lp_pre h0 c_61) (lp_mu h0 c_61 hk) _ _ hP hD hS ls (lv_sub hl [1, 2, 3, 4, 0] rfl)
set_option maxHeartbeats 4000000 in
set_option maxRecDepth 100000 in
theorem c_X4_sheet (l : Launch) (D : va_G) (cI cO : ClassId) (tF : Nat) (ad : Nat → Nat) (M : MS) (x1 : Int32) (x2 : Int32) (x3 : Int32) : Ct l yX4_sheet wsX4_sheet ({ frames := 2, cells := 0, slots := 0, locals := 42 }) D cI cO tF [.ref (ad 0), .int x1, .int x2, .int x3] (wM ad cI M) (some (.int ((f_X4_sheet M x1 x2 x3).1))) (wM ad cI ((f_X4_sheet M x1 x2 x3).2)) := by
  refine Ct.of (cc := cX4_sheet) (maxL := 5) (ret := (some .int)) (own := RX4) (by decide) rfl rfl (Nat.le_of_ble_eq_true rfl) ?_
  intro p e s m args below meth c A ls B hP hD hS hl
  obtain ⟨hx, hb, hret, hml, hts, hown, hlocks, hE, hA⟩ := id B
  have hK := hE.1
  have hl : lv_has ls 5 [(0, .ref (ad 0)), (1, .int x1), (2, .int x2), (3, .int x3)] := hl
  refine lv_aload_n hx hb dX4_sheet_0 rfl (lv_at hl 0 rfl) ?_
  refine lv_iconst (v := (0 : Int32)) hx hb dX4_sheet_1 (by decide) ?_
  refine va_put (D := D) (ci := 4) (v := .int (0 : Int32)) (ty := .int) (C := RX4) (T := TX4) (N := 24) hx hb hts iw_X4_sheet_4 tyX4 tyX4_ok nmX4 hown hK hP hD hS 0 rfl rfl 0 (by decide) (hts (.fieldLink RX4 46 "TownLispModel" "fault" "I") (by decide +kernel)) (fun _ h9 => h9) rfl (by decide +kernel) rfl rfl (Nat.le_of_ble_eq_true rfl) dX4_sheet_2 (fun H locs hP hD hS => ?_)
  have hP : va_P D vwCl (wM ad cI (M_fault' M (0 : Int32))) H := hP
  have hD : va_D A (wM ad cI (M_fault' M (0 : Int32))) := hD
  refine lv_iload_n hx hb dX4_sheet_5 rfl (lv_at hl 1 rfl) ?_
  refine kc_S (As := [.int x1]) (rest := []) B (c_X4_isSheet l D cI cO tF x1 ) (va_cwS 1 hts gX4_sheet_X4_isSheet rfl rfl rfl (by decide +kernel) ⟨Nat.le_of_ble_eq_true rfl, Nat.le_of_ble_eq_true rfl⟩) hP hD hS [] rfl (by decide) (w' := wM ad cI (M_fault' M (0 : Int32))) rfl rfl rfl hl.1 rfl (Nat.le_of_ble_eq_true rfl) dX4_sheet_6 ⟨Nat.zero_le _, Nat.zero_le _⟩ (fun H locs hP hD hS => ?_)
  have hD : va_D A (wM ad cI (M_fault' M (0 : Int32))) := hD
  refine lv_if_ne (tgt := 14) hx hb dX4_sheet_9 (by decide) (fun c_9 => ?_) (fun c_9 => ?_)
  · refine lv_iload_n hx hb dX4_sheet_14 rfl (lv_at hl 2 rfl) ?_
    refine kc_S (As := [.int x2]) (rest := []) B (c_X4_isSort l D cI cO tF x2 ) (va_cwS 1 hts gX4_sheet_X4_isSort rfl rfl rfl (by decide +kernel) ⟨Nat.le_of_ble_eq_true rfl, Nat.le_of_ble_eq_true rfl⟩) hP hD hS [] rfl (by decide) (w' := wM ad cI (M_fault' M (0 : Int32))) rfl rfl rfl hl.1 rfl (Nat.le_of_ble_eq_true rfl) dX4_sheet_15 ⟨Nat.zero_le _, Nat.zero_le _⟩ (fun H locs hP hD hS => ?_)
    have hD : va_D A (wM ad cI (M_fault' M (0 : Int32))) := hD
    refine lv_if_eq (tgt := 27) hx hb dX4_sheet_18 (by decide) (fun c_18 => ?_) (fun c_18 => ?_)
    · refine lv_bipush (v := (-2 : Int32)) hx hb dX4_sheet_27 (by decide) ?_
      have hF : f_X4_sheet M x1 x2 x3 = ((-2 : Int32), (M_fault' M (0 : Int32))) := by rw [f_X4_sheet, if_neg c_9, if_pos c_18]
      rw [hF]
      exact kr_i B hP hS rfl rfl dX4_sheet_29
    · refine lv_iload_n hx hb dX4_sheet_21 rfl (lv_at hl 3 rfl) ?_
      refine lv_bipush (v := (60 : Int32)) hx hb dX4_sheet_22 (by decide) ?_
      refine lv_icmp_le (tgt := 30) hx hb dX4_sheet_24 (by decide) (fun c_24 => ?_) (fun c_24 => ?_)
      · refine lv_iload_n hx hb dX4_sheet_30 rfl (lv_at hl 3 rfl) ?_
        refine lv_if_ge (tgt := 40) hx hb dX4_sheet_31 (by decide) (fun c_31 => ?_) (fun c_31 => ?_)
        · refine lv_aload_n hx hb dX4_sheet_40 rfl (lv_at hl 0 rfl) ?_
          refine va_get (D := D) (ci := 4) (v := .ref (ad 1)) (C := RX4) (T := TX4) (N := 24) hx hb hts iw_X4_sheet_4 hown hK hP 0 rfl rfl 2 (by decide) (hts (.fieldLink RX4 9 "TownLispModel" "sorts" "[I") (by decide +kernel)) (fun _ h9 => h9) rfl dX4_sheet_41 ?_
          refine lv_iload_n hx hb dX4_sheet_44 rfl (lv_at hl 1 rfl) ?_
          refine lv_iload_n hx hb dX4_sheet_45 rfl (lv_at hl 2 rfl) ?_
          refine va_iast hx hb hK hP hD hS 1 0 rfl rfl (sh_in c_9) dX4_sheet_46 (fun H locs hP hD hS => ?_)
          have hP : va_P D vwCl (wM ad cI (M_sorts' (M_fault' M (0 : Int32)) (upd (M_sorts M) x1.toNatClampNeg x2))) H := hP
          have hD : va_D A (wM ad cI (M_sorts' (M_fault' M (0 : Int32)) (upd (M_sorts M) x1.toNatClampNeg x2))) := hD
          refine lv_aload_n hx hb dX4_sheet_47 rfl (lv_at hl 0 rfl) ?_
          refine va_get (D := D) (ci := 4) (v := .ref (ad 2)) (C := RX4) (T := TX4) (N := 24) hx hb hts iw_X4_sheet_4 hown hK hP 0 rfl rfl 3 (by decide) (hts (.fieldLink RX4 13 "TownLispModel" "sheetLong" "[I") (by decide +kernel)) (fun _ h9 => h9) rfl dX4_sheet_48 ?_
          refine lv_iload_n hx hb dX4_sheet_51 rfl (lv_at hl 1 rfl) ?_
          refine lv_iload_n hx hb dX4_sheet_52 rfl (lv_at hl 3 rfl) ?_
          refine va_iast hx hb hK hP hD hS 2 0 rfl rfl (sh_in c_9) dX4_sheet_53 (fun H locs hP hD hS => ?_)
          have hP : va_P D vwCl (wM ad cI (M_sheetLong' (M_sorts' (M_fault' M (0 : Int32)) (upd (M_sorts M) x1.toNatClampNeg x2)) (upd (M_sheetLong M) x1.toNatClampNeg x3))) H := hP
          have hD : va_D A (wM ad cI (M_sheetLong' (M_sorts' (M_fault' M (0 : Int32)) (upd (M_sorts M) x1.toNatClampNeg x2)) (upd (M_sheetLong M) x1.toNatClampNeg x3))) := hD
          refine lv_iconst (v := (0 : Int32)) hx hb dX4_sheet_54 (by decide) ?_
          refine lv_istore (lv' := [(4, .int (0 : Int32)), (0, .ref (ad 0)), (1, .int x1), (2, .int x2), (3, .int x3)]) hx hb dX4_sheet_55 hl (by decide) rfl (fun ls hl => ?_)
          have hF : f_X4_sheet M x1 x2 x3 = fL_X4_sheet_57 M x1 x2 x3 61 (0 : Int32) (M_sheetLong' (M_sorts' (M_fault' M (0 : Int32)) (upd (M_sorts M) x1.toNatClampNeg x2)) (upd (M_sheetLong M) x1.toNatClampNeg x3)) := by rw [f_X4_sheet, if_neg c_9, if_neg c_18, if_pos c_24, if_pos c_31]
          rw [hF]
          exact L_X4_sheet_57 l D cI cO tF ad M x1 x2 x3  B (sh_in c_9) 61 (0 : Int32) (M_sheetLong' (M_sorts' (M_fault' M (0 : Int32)) (upd (M_sorts M) x1.toNatClampNeg x2)) (upd (M_sheetLong M) x1.toNatClampNeg x3)) (Int.le_refl _) (by decide) _ _ hP hD hS ls (lv_sub hl [1, 2, 3, 4, 0] rfl)
        · refine lv_aload_n hx hb dX4_sheet_34 rfl (lv_at hl 0 rfl) ?_
          refine lv_iconst (v := (4 : Int32)) hx hb dX4_sheet_35 (by decide) ?_
          refine kc_V (As := [.int (4 : Int32)]) (rest := []) B (c_X4_fails l D cI cO tF ad (M_fault' M (0 : Int32)) (4 : Int32) ) (cwV 1 hts gX4_sheet_X4_fails rfl rfl rfl (by decide +kernel) ⟨Nat.le_of_ble_eq_true rfl, Nat.le_of_ble_eq_true rfl⟩) hP hD hS [0, 1, 2, 3, 4, 5, 6, 7, 8, 9, 10, 11, 12] wM_subA (by decide) (w' := wM ad cI ((f_X4_fails (M_fault' M (0 : Int32)) (4 : Int32)).2)) (wM_setA _) (wM_fst _) 0 4 rfl rfl rfl rfl hl.1 rfl (Nat.le_of_ble_eq_true rfl) dX4_sheet_36 ⟨Nat.zero_le _, Nat.zero_le _⟩ (fun H locs hP hD hS => ?_)
          have hD : va_D A (wM ad cI ((f_X4_fails (M_fault' M (0 : Int32)) (4 : Int32)).2)) := hD
          have hF : f_X4_sheet M x1 x2 x3 = ((f_X4_fails (M_fault' M (0 : Int32)) (4 : Int32)).1, (f_X4_fails (M_fault' M (0 : Int32)) (4 : Int32)).2) := by rw [f_X4_sheet, if_neg c_9, if_neg c_18, if_pos c_24, if_neg c_31]
          rw [hF]
          exact kr_i B hP hS rfl rfl dX4_sheet_39
      · refine lv_bipush (v := (-2 : Int32)) hx hb dX4_sheet_27 (by decide) ?_
        have hF : f_X4_sheet M x1 x2 x3 = ((-2 : Int32), (M_fault' M (0 : Int32))) := by rw [f_X4_sheet, if_neg c_9, if_neg c_18, if_neg c_24]
        rw [hF]
        exact kr_i B hP hS rfl rfl dX4_sheet_29
  · refine lv_iconst (v := (-1 : Int32)) hx hb dX4_sheet_12 (by decide) ?_
    have hF : f_X4_sheet M x1 x2 x3 = ((-1 : Int32), (M_fault' M (0 : Int32))) := by rw [f_X4_sheet, if_pos c_9]
    rw [hF]
    exact kr_i B hP hS rfl rfl dX4_sheet_13
def f_X4_lose (M : MS) (x1 : Int32) : Int32 × MS := (if (f_X4_isSheet x1) = 0 then ((-1 : Int32), M) else (if ((M_sorts M) x1.toNatClampNeg) = (-9 : Int32) then ((0 : Int32), (M_sorts' M (upd (M_sorts M) x1.toNatClampNeg (-9 : Int32)))) else ((1 : Int32), (M_sorts' M (upd (M_sorts M) x1.toNatClampNeg (-9 : Int32))))))
theorem iw_X4_lose_4 : ∀ w ∈ wsX40, w ∈ wsX4_lose := fun _ h => List.mem_cons_of_mem _ (List.mem_append_right _ h)
set_option maxHeartbeats 4000000 in
set_option maxRecDepth 100000 in
theorem c_X4_lose (l : Launch) (D : va_G) (cI cO : ClassId) (tF : Nat) (ad : Nat → Nat) (M : MS) (x1 : Int32) : Ct l yX4_lose wsX4_lose ({ frames := 2, cells := 0, slots := 0, locals := 42 }) D cI cO tF [.ref (ad 0), .int x1] (wM ad cI M) (some (.int ((f_X4_lose M x1).1))) (wM ad cI ((f_X4_lose M x1).2)) := by
  refine Ct.of (cc := cX4_lose) (maxL := 3) (ret := (some .int)) (own := RX4) (by decide) rfl rfl (Nat.le_of_ble_eq_true rfl) ?_
  intro p e s m args below meth c A ls B hP hD hS hl
  obtain ⟨hx, hb, hret, hml, hts, hown, hlocks, hE, hA⟩ := id B
  have hK := hE.1
  have hl : lv_has ls 3 [(0, .ref (ad 0)), (1, .int x1)] := hl
  refine lv_iload_n hx hb dX4_lose_0 rfl (lv_at hl 1 rfl) ?_
  refine kc_S (As := [.int x1]) (rest := []) B (c_X4_isSheet l D cI cO tF x1 ) (va_cwS 1 hts gX4_lose_X4_isSheet rfl rfl rfl (by decide +kernel) ⟨Nat.le_of_ble_eq_true rfl, Nat.le_of_ble_eq_true rfl⟩) hP hD hS [] rfl (by decide) (w' := wM ad cI M) rfl rfl rfl hl.1 rfl (Nat.le_of_ble_eq_true rfl) dX4_lose_1 ⟨Nat.zero_le _, Nat.zero_le _⟩ (fun H locs hP hD hS => ?_)
  have hD : va_D A (wM ad cI M) := hD
  refine lv_if_ne (tgt := 9) hx hb dX4_lose_4 (by decide) (fun c_4 => ?_) (fun c_4 => ?_)
  · refine lv_aload_n hx hb dX4_lose_9 rfl (lv_at hl 0 rfl) ?_
    refine va_get (D := D) (ci := 4) (v := .ref (ad 1)) (C := RX4) (T := TX4) (N := 24) hx hb hts iw_X4_lose_4 hown hK hP 0 rfl rfl 2 (by decide) (hts (.fieldLink RX4 9 "TownLispModel" "sorts" "[I") (by decide +kernel)) (fun _ h9 => h9) rfl dX4_lose_10 ?_
    refine lv_iload_n hx hb dX4_lose_13 rfl (lv_at hl 1 rfl) ?_
    refine va_iald hx hb hK hP 1 0 rfl rfl (sh_in c_4) dX4_lose_14 ?_
    refine lv_bipush (v := (-9 : Int32)) hx hb dX4_lose_15 (by decide) ?_
    refine lv_icmp_ne (tgt := 24) hx hb dX4_lose_17 (by decide) (fun c_17 => ?_) (fun c_17 => ?_)
    · refine lv_iconst (v := (1 : Int32)) hx hb dX4_lose_24 (by decide) ?_
      refine lv_istore_n (lv' := [(2, .int (1 : Int32)), (0, .ref (ad 0)), (1, .int x1)]) hx hb dX4_lose_25 rfl hl (by decide) rfl (fun ls hl => ?_)
      refine lv_aload_n hx hb dX4_lose_26 rfl (lv_at hl 1 rfl) ?_
      refine va_get (D := D) (ci := 4) (v := .ref (ad 1)) (C := RX4) (T := TX4) (N := 24) hx hb hts iw_X4_lose_4 hown hK hP 0 rfl rfl 2 (by decide) (hts (.fieldLink RX4 9 "TownLispModel" "sorts" "[I") (by decide +kernel)) (fun _ h9 => h9) rfl dX4_lose_27 ?_
      refine lv_iload_n hx hb dX4_lose_30 rfl (lv_at hl 2 rfl) ?_
      refine lv_bipush (v := (-9 : Int32)) hx hb dX4_lose_31 (by decide) ?_
      refine va_iast hx hb hK hP hD hS 1 0 rfl rfl (sh_in c_4) dX4_lose_33 (fun H locs hP hD hS => ?_)
      have hP : va_P D vwCl (wM ad cI (M_sorts' M (upd (M_sorts M) x1.toNatClampNeg (-9 : Int32)))) H := hP
      have hD : va_D A (wM ad cI (M_sorts' M (upd (M_sorts M) x1.toNatClampNeg (-9 : Int32)))) := hD
      refine lv_iload_n hx hb dX4_lose_34 rfl (lv_at hl 0 rfl) ?_
      have hF : f_X4_lose M x1 = ((1 : Int32), (M_sorts' M (upd (M_sorts M) x1.toNatClampNeg (-9 : Int32)))) := by rw [f_X4_lose, if_neg c_4, if_neg c_17]
      rw [hF]
      exact kr_i B hP hS rfl rfl dX4_lose_35
    · refine lv_iconst (v := (0 : Int32)) hx hb dX4_lose_20 (by decide) ?_
      refine lv_goto (tgt := 25) hx hb dX4_lose_21 (by decide) ?_
      refine lv_istore_n (lv' := [(2, .int (0 : Int32)), (0, .ref (ad 0)), (1, .int x1)]) hx hb dX4_lose_25 rfl hl (by decide) rfl (fun ls hl => ?_)
      refine lv_aload_n hx hb dX4_lose_26 rfl (lv_at hl 1 rfl) ?_
      refine va_get (D := D) (ci := 4) (v := .ref (ad 1)) (C := RX4) (T := TX4) (N := 24) hx hb hts iw_X4_lose_4 hown hK hP 0 rfl rfl 2 (by decide) (hts (.fieldLink RX4 9 "TownLispModel" "sorts" "[I") (by decide +kernel)) (fun _ h9 => h9) rfl dX4_lose_27 ?_
      refine lv_iload_n hx hb dX4_lose_30 rfl (lv_at hl 2 rfl) ?_
      refine lv_bipush (v := (-9 : Int32)) hx hb dX4_lose_31 (by decide) ?_
      refine va_iast hx hb hK hP hD hS 1 0 rfl rfl (sh_in c_4) dX4_lose_33 (fun H locs hP hD hS => ?_)
      have hP : va_P D vwCl (wM ad cI (M_sorts' M (upd (M_sorts M) x1.toNatClampNeg (-9 : Int32)))) H := hP
      have hD : va_D A (wM ad cI (M_sorts' M (upd (M_sorts M) x1.toNatClampNeg (-9 : Int32)))) := hD
      refine lv_iload_n hx hb dX4_lose_34 rfl (lv_at hl 0 rfl) ?_
      have hF : f_X4_lose M x1 = ((0 : Int32), (M_sorts' M (upd (M_sorts M) x1.toNatClampNeg (-9 : Int32)))) := by rw [f_X4_lose, if_neg c_4, if_pos c_17]
      rw [hF]
      exact kr_i B hP hS rfl rfl dX4_lose_35
  · refine lv_iconst (v := (-1 : Int32)) hx hb dX4_lose_7 (by decide) ?_
    have hF : f_X4_lose M x1 = ((-1 : Int32), M) := by rw [f_X4_lose, if_pos c_4]
    rw [hF]
    exact kr_i B hP hS rfl rfl dX4_lose_8
def f_X4_put (M : MS) (x1 : Int32) (x2 : Int32) (x3 : Int32) : Int32 × MS := (if (f_X4_isSheet x1) = 0 then ((-1 : Int32), (M_fault' M (0 : Int32))) else (if ((M_sorts M) x1.toNatClampNeg) = (-9 : Int32) then ((f_X4_fails (M_fault' M (0 : Int32)) (1 : Int32)).1, (f_X4_fails (M_fault' M (0 : Int32)) (1 : Int32)).2) else (if (f_X4_within x2 (0 : Int32) (((M_sheetLong M) x1.toNatClampNeg) - (1 : Int32))) = 0 then ((f_X4_fails (M_fault' M (0 : Int32)) (3 : Int32)).1, (f_X4_fails (M_fault' M (0 : Int32)) (3 : Int32)).2) else (if ((M_sorts M) x1.toNatClampNeg) = 0 then ((1 : Int32), (M_cells' (M_fault' M (0 : Int32)) (upd (M_cells M) (((60 : Int32) * x1) + x2).toNatClampNeg x3.toInt8.toInt32))) else (if ((M_sorts M) x1.toNatClampNeg) = (1 : Int32) then ((1 : Int32), (M_cells' (M_fault' M (0 : Int32)) (upd (M_cells M) (((60 : Int32) * x1) + x2).toNatClampNeg x3.toInt16.toInt32))) else ((1 : Int32), (M_cells' (M_fault' M (0 : Int32)) (upd (M_cells M) (((60 : Int32) * x1) + x2).toNatClampNeg x3))))))))
theorem iw_X4_put_4 : ∀ w ∈ wsX40, w ∈ wsX4_put := fun _ h => List.mem_cons_of_mem _ (List.mem_append_right _ h)
set_option maxHeartbeats 4000000 in
set_option maxRecDepth 100000 in
theorem c_X4_put (l : Launch) (D : va_G) (cI cO : ClassId) (tF : Nat) (ad : Nat → Nat) (M : MS) (x1 : Int32) (x2 : Int32) (x3 : Int32) (hL : ∀ i : Nat, i < 4 → 0 ≤ (M_sheetLong M i).toInt ∧ (M_sheetLong M i).toInt ≤ 60) : Ct l yX4_put wsX4_put ({ frames := 2, cells := 0, slots := 0, locals := 42 }) D cI cO tF [.ref (ad 0), .int x1, .int x2, .int x3] (wM ad cI M) (some (.int ((f_X4_put M x1 x2 x3).1))) (wM ad cI ((f_X4_put M x1 x2 x3).2)) := by
  refine Ct.of (cc := cX4_put) (maxL := 4) (ret := (some .int)) (own := RX4) (by decide) rfl rfl (Nat.le_of_ble_eq_true rfl) ?_
  intro p e s m args below meth c A ls B hP hD hS hl
  obtain ⟨hx, hb, hret, hml, hts, hown, hlocks, hE, hA⟩ := id B
  have hK := hE.1
  have hl : lv_has ls 4 [(0, .ref (ad 0)), (1, .int x1), (2, .int x2), (3, .int x3)] := hl
  refine lv_aload_n hx hb dX4_put_0 rfl (lv_at hl 0 rfl) ?_
  refine lv_iconst (v := (0 : Int32)) hx hb dX4_put_1 (by decide) ?_
  refine va_put (D := D) (ci := 4) (v := .int (0 : Int32)) (ty := .int) (C := RX4) (T := TX4) (N := 24) hx hb hts iw_X4_put_4 tyX4 tyX4_ok nmX4 hown hK hP hD hS 0 rfl rfl 0 (by decide) (hts (.fieldLink RX4 46 "TownLispModel" "fault" "I") (by decide +kernel)) (fun _ h9 => h9) rfl (by decide +kernel) rfl rfl (Nat.le_of_ble_eq_true rfl) dX4_put_2 (fun H locs hP hD hS => ?_)
  have hP : va_P D vwCl (wM ad cI (M_fault' M (0 : Int32))) H := hP
  have hD : va_D A (wM ad cI (M_fault' M (0 : Int32))) := hD
  refine lv_iload_n hx hb dX4_put_5 rfl (lv_at hl 1 rfl) ?_
  refine kc_S (As := [.int x1]) (rest := []) B (c_X4_isSheet l D cI cO tF x1 ) (va_cwS 1 hts gX4_put_X4_isSheet rfl rfl rfl (by decide +kernel) ⟨Nat.le_of_ble_eq_true rfl, Nat.le_of_ble_eq_true rfl⟩) hP hD hS [] rfl (by decide) (w' := wM ad cI (M_fault' M (0 : Int32))) rfl rfl rfl hl.1 rfl (Nat.le_of_ble_eq_true rfl) dX4_put_6 ⟨Nat.zero_le _, Nat.zero_le _⟩ (fun H locs hP hD hS => ?_)
  have hD : va_D A (wM ad cI (M_fault' M (0 : Int32))) := hD
  refine lv_if_ne (tgt := 14) hx hb dX4_put_9 (by decide) (fun c_9 => ?_) (fun c_9 => ?_)
  · refine lv_aload_n hx hb dX4_put_14 rfl (lv_at hl 0 rfl) ?_
    refine va_get (D := D) (ci := 4) (v := .ref (ad 1)) (C := RX4) (T := TX4) (N := 24) hx hb hts iw_X4_put_4 hown hK hP 0 rfl rfl 2 (by decide) (hts (.fieldLink RX4 9 "TownLispModel" "sorts" "[I") (by decide +kernel)) (fun _ h9 => h9) rfl dX4_put_15 ?_
    refine lv_iload_n hx hb dX4_put_18 rfl (lv_at hl 1 rfl) ?_
    refine va_iald hx hb hK hP 1 0 rfl rfl (sh_in c_9) dX4_put_19 ?_
    refine lv_bipush (v := (-9 : Int32)) hx hb dX4_put_20 (by decide) ?_
    refine lv_icmp_ne (tgt := 31) hx hb dX4_put_22 (by decide) (fun c_22 => ?_) (fun c_22 => ?_)
    · refine lv_iload_n hx hb dX4_put_31 rfl (lv_at hl 2 rfl) ?_
      refine lv_iconst (v := (0 : Int32)) hx hb dX4_put_32 (by decide) ?_
      refine lv_aload_n hx hb dX4_put_33 rfl (lv_at hl 0 rfl) ?_
      refine va_get (D := D) (ci := 4) (v := .ref (ad 2)) (C := RX4) (T := TX4) (N := 24) hx hb hts iw_X4_put_4 hown hK hP 0 rfl rfl 3 (by decide) (hts (.fieldLink RX4 13 "TownLispModel" "sheetLong" "[I") (by decide +kernel)) (fun _ h9 => h9) rfl dX4_put_34 ?_
      refine lv_iload_n hx hb dX4_put_37 rfl (lv_at hl 1 rfl) ?_
      refine va_iald hx hb hK hP 2 0 rfl rfl (sh_in c_9) dX4_put_38 ?_
      refine lv_iconst (v := (1 : Int32)) hx hb dX4_put_39 (by decide) ?_
      refine lv_isub hx hb dX4_put_40 ?_
      refine kc_S (As := [.int x2, .int (0 : Int32), .int (((M_sheetLong M) x1.toNatClampNeg) - (1 : Int32))]) (rest := []) B (c_X4_within l D cI cO tF x2 (0 : Int32) (((M_sheetLong M) x1.toNatClampNeg) - (1 : Int32)) ) (va_cwS 3 hts gX4_put_X4_within rfl rfl rfl (by decide +kernel) ⟨Nat.le_of_ble_eq_true rfl, Nat.le_of_ble_eq_true rfl⟩) hP hD hS [] rfl (by decide) (w' := wM ad cI (M_fault' M (0 : Int32))) rfl rfl rfl hl.1 rfl (Nat.le_of_ble_eq_true rfl) dX4_put_41 ⟨Nat.zero_le _, Nat.zero_le _⟩ (fun H locs hP hD hS => ?_)
      have hD : va_D A (wM ad cI (M_fault' M (0 : Int32))) := hD
      refine lv_if_ne (tgt := 53) hx hb dX4_put_44 (by decide) (fun c_44 => ?_) (fun c_44 => ?_)
      · refine lv_aload_n hx hb dX4_put_53 rfl (lv_at hl 0 rfl) ?_
        refine va_get (D := D) (ci := 4) (v := .ref (ad 3)) (C := RX4) (T := TX4) (N := 24) hx hb hts iw_X4_put_4 hown hK hP 0 rfl rfl 4 (by decide) (hts (.fieldLink RX4 16 "TownLispModel" "cells" "[I") (by decide +kernel)) (fun _ h9 => h9) rfl dX4_put_54 ?_
        refine lv_bipush (v := (60 : Int32)) hx hb dX4_put_57 (by decide) ?_
        refine lv_iload_n hx hb dX4_put_59 rfl (lv_at hl 1 rfl) ?_
        refine lv_imul hx hb dX4_put_60 ?_
        refine lv_iload_n hx hb dX4_put_61 rfl (lv_at hl 2 rfl) ?_
        refine lv_iadd hx hb dX4_put_62 ?_
        refine lv_aload_n hx hb dX4_put_63 rfl (lv_at hl 0 rfl) ?_
        refine va_get (D := D) (ci := 4) (v := .ref (ad 1)) (C := RX4) (T := TX4) (N := 24) hx hb hts iw_X4_put_4 hown hK hP 0 rfl rfl 2 (by decide) (hts (.fieldLink RX4 9 "TownLispModel" "sorts" "[I") (by decide +kernel)) (fun _ h9 => h9) rfl dX4_put_64 ?_
        refine lv_iload_n hx hb dX4_put_67 rfl (lv_at hl 1 rfl) ?_
        refine va_iald hx hb hK hP 1 0 rfl rfl (sh_in c_9) dX4_put_68 ?_
        refine lv_if_ne (tgt := 77) hx hb dX4_put_69 (by decide) (fun c_69 => ?_) (fun c_69 => ?_)
        · refine lv_aload_n hx hb dX4_put_77 rfl (lv_at hl 0 rfl) ?_
          refine va_get (D := D) (ci := 4) (v := .ref (ad 1)) (C := RX4) (T := TX4) (N := 24) hx hb hts iw_X4_put_4 hown hK hP 0 rfl rfl 2 (by decide) (hts (.fieldLink RX4 9 "TownLispModel" "sorts" "[I") (by decide +kernel)) (fun _ h9 => h9) rfl dX4_put_78 ?_
          refine lv_iload_n hx hb dX4_put_81 rfl (lv_at hl 1 rfl) ?_
          refine va_iald hx hb hK hP 1 0 rfl rfl (sh_in c_9) dX4_put_82 ?_
          refine lv_iconst (v := (1 : Int32)) hx hb dX4_put_83 (by decide) ?_
          refine lv_icmp_ne (tgt := 92) hx hb dX4_put_84 (by decide) (fun c_84 => ?_) (fun c_84 => ?_)
          · refine lv_iload_n hx hb dX4_put_92 rfl (lv_at hl 3 rfl) ?_
            refine va_iast hx hb hK hP hD hS 3 0 rfl rfl (put_in (sh_in c_9) (hL _ (sh_cl (sh_in c_9))) c_44) dX4_put_93 (fun H locs hP hD hS => ?_)
            have hP : va_P D vwCl (wM ad cI (M_cells' (M_fault' M (0 : Int32)) (upd (M_cells M) (((60 : Int32) * x1) + x2).toNatClampNeg x3))) H := hP
            have hD : va_D A (wM ad cI (M_cells' (M_fault' M (0 : Int32)) (upd (M_cells M) (((60 : Int32) * x1) + x2).toNatClampNeg x3))) := hD
            refine lv_iconst (v := (1 : Int32)) hx hb dX4_put_94 (by decide) ?_
            have hF : f_X4_put M x1 x2 x3 = ((1 : Int32), (M_cells' (M_fault' M (0 : Int32)) (upd (M_cells M) (((60 : Int32) * x1) + x2).toNatClampNeg x3))) := by rw [f_X4_put, if_neg c_9, if_neg c_22, if_neg c_44, if_neg c_69, if_neg c_84]
            rw [hF]
            exact kr_i B hP hS rfl rfl dX4_put_95
          · refine lv_iload_n hx hb dX4_put_87 rfl (lv_at hl 3 rfl) ?_
            refine lv_i2s (v := x3.toInt16.toInt32) hx hb dX4_put_88 rfl ?_
            refine lv_goto (tgt := 93) hx hb dX4_put_89 (by decide) ?_
            refine va_iast hx hb hK hP hD hS 3 0 rfl rfl (put_in (sh_in c_9) (hL _ (sh_cl (sh_in c_9))) c_44) dX4_put_93 (fun H locs hP hD hS => ?_)
            have hP : va_P D vwCl (wM ad cI (M_cells' (M_fault' M (0 : Int32)) (upd (M_cells M) (((60 : Int32) * x1) + x2).toNatClampNeg x3.toInt16.toInt32))) H := hP
            have hD : va_D A (wM ad cI (M_cells' (M_fault' M (0 : Int32)) (upd (M_cells M) (((60 : Int32) * x1) + x2).toNatClampNeg x3.toInt16.toInt32))) := hD
            refine lv_iconst (v := (1 : Int32)) hx hb dX4_put_94 (by decide) ?_
            have hF : f_X4_put M x1 x2 x3 = ((1 : Int32), (M_cells' (M_fault' M (0 : Int32)) (upd (M_cells M) (((60 : Int32) * x1) + x2).toNatClampNeg x3.toInt16.toInt32))) := by rw [f_X4_put, if_neg c_9, if_neg c_22, if_neg c_44, if_neg c_69, if_pos c_84]
            rw [hF]
            exact kr_i B hP hS rfl rfl dX4_put_95
        · refine lv_iload_n hx hb dX4_put_72 rfl (lv_at hl 3 rfl) ?_
          refine lv_i2b (v := x3.toInt8.toInt32) hx hb dX4_put_73 rfl ?_
          refine lv_goto (tgt := 93) hx hb dX4_put_74 (by decide) ?_
          refine va_iast hx hb hK hP hD hS 3 0 rfl rfl (put_in (sh_in c_9) (hL _ (sh_cl (sh_in c_9))) c_44) dX4_put_93 (fun H locs hP hD hS => ?_)
          have hP : va_P D vwCl (wM ad cI (M_cells' (M_fault' M (0 : Int32)) (upd (M_cells M) (((60 : Int32) * x1) + x2).toNatClampNeg x3.toInt8.toInt32))) H := hP
          have hD : va_D A (wM ad cI (M_cells' (M_fault' M (0 : Int32)) (upd (M_cells M) (((60 : Int32) * x1) + x2).toNatClampNeg x3.toInt8.toInt32))) := hD
          refine lv_iconst (v := (1 : Int32)) hx hb dX4_put_94 (by decide) ?_
          have hF : f_X4_put M x1 x2 x3 = ((1 : Int32), (M_cells' (M_fault' M (0 : Int32)) (upd (M_cells M) (((60 : Int32) * x1) + x2).toNatClampNeg x3.toInt8.toInt32))) := by rw [f_X4_put, if_neg c_9, if_neg c_22, if_neg c_44, if_pos c_69]
          rw [hF]
          exact kr_i B hP hS rfl rfl dX4_put_95
      · refine lv_aload_n hx hb dX4_put_47 rfl (lv_at hl 0 rfl) ?_
        refine lv_iconst (v := (3 : Int32)) hx hb dX4_put_48 (by decide) ?_
        refine kc_V (As := [.int (3 : Int32)]) (rest := []) B (c_X4_fails l D cI cO tF ad (M_fault' M (0 : Int32)) (3 : Int32) ) (cwV 1 hts gX4_put_X4_fails rfl rfl rfl (by decide +kernel) ⟨Nat.le_of_ble_eq_true rfl, Nat.le_of_ble_eq_true rfl⟩) hP hD hS [0, 1, 2, 3, 4, 5, 6, 7, 8, 9, 10, 11, 12] wM_subA (by decide) (w' := wM ad cI ((f_X4_fails (M_fault' M (0 : Int32)) (3 : Int32)).2)) (wM_setA _) (wM_fst _) 0 4 rfl rfl rfl rfl hl.1 rfl (Nat.le_of_ble_eq_true rfl) dX4_put_49 ⟨Nat.zero_le _, Nat.zero_le _⟩ (fun H locs hP hD hS => ?_)
        have hD : va_D A (wM ad cI ((f_X4_fails (M_fault' M (0 : Int32)) (3 : Int32)).2)) := hD
        have hF : f_X4_put M x1 x2 x3 = ((f_X4_fails (M_fault' M (0 : Int32)) (3 : Int32)).1, (f_X4_fails (M_fault' M (0 : Int32)) (3 : Int32)).2) := by rw [f_X4_put, if_neg c_9, if_neg c_22, if_pos c_44]
        rw [hF]
        exact kr_i B hP hS rfl rfl dX4_put_52
    · refine lv_aload_n hx hb dX4_put_25 rfl (lv_at hl 0 rfl) ?_
      refine lv_iconst (v := (1 : Int32)) hx hb dX4_put_26 (by decide) ?_
      refine kc_V (As := [.int (1 : Int32)]) (rest := []) B (c_X4_fails l D cI cO tF ad (M_fault' M (0 : Int32)) (1 : Int32) ) (cwV 1 hts gX4_put_X4_fails rfl rfl rfl (by decide +kernel) ⟨Nat.le_of_ble_eq_true rfl, Nat.le_of_ble_eq_true rfl⟩) hP hD hS [0, 1, 2, 3, 4, 5, 6, 7, 8, 9, 10, 11, 12] wM_subA (by decide) (w' := wM ad cI ((f_X4_fails (M_fault' M (0 : Int32)) (1 : Int32)).2)) (wM_setA _) (wM_fst _) 0 4 rfl rfl rfl rfl hl.1 rfl (Nat.le_of_ble_eq_true rfl) dX4_put_27 ⟨Nat.zero_le _, Nat.zero_le _⟩ (fun H locs hP hD hS => ?_)
      have hD : va_D A (wM ad cI ((f_X4_fails (M_fault' M (0 : Int32)) (1 : Int32)).2)) := hD
      have hF : f_X4_put M x1 x2 x3 = ((f_X4_fails (M_fault' M (0 : Int32)) (1 : Int32)).1, (f_X4_fails (M_fault' M (0 : Int32)) (1 : Int32)).2) := by rw [f_X4_put, if_neg c_9, if_pos c_22]
      rw [hF]
      exact kr_i B hP hS rfl rfl dX4_put_30
  · refine lv_iconst (v := (-1 : Int32)) hx hb dX4_put_12 (by decide) ?_
    have hF : f_X4_put M x1 x2 x3 = ((-1 : Int32), (M_fault' M (0 : Int32))) := by rw [f_X4_put, if_pos c_9]
    rw [hF]
    exact kr_i B hP hS rfl rfl dX4_put_13
def f_X4_cell (M : MS) (x1 : Int32) (x2 : Int32) (x3 : Int32) : Int64 × MS := (if (f_X4_isSheet x1) = 0 then ((-9223372036854775808 : Int64), (M_fault' M (0 : Int32))) else (if (f_X4_isSort x3) = 0 then ((-9223372036854775808 : Int64), (M_fault' M (0 : Int32))) else (if ((M_sorts M) x1.toNatClampNeg) = (-9 : Int32) then (if ((M_sorts M) x1.toNatClampNeg) = (-9 : Int32) then ((f_X4_lost (M_fault' M (0 : Int32)) (1 : Int32)).1, (f_X4_lost (M_fault' M (0 : Int32)) (1 : Int32)).2) else (if (f_X4_within x2 (0 : Int32) (((M_sheetLong M) x1.toNatClampNeg) - (1 : Int32))) = 0 then ((f_X4_lost (M_fault' M (0 : Int32)) (3 : Int32)).1, (f_X4_lost (M_fault' M (0 : Int32)) (3 : Int32)).2) else (((M_cells M) (((60 : Int32) * x1) + x2).toNatClampNeg).toInt64, (M_fault' M (0 : Int32))))) else (if ((M_sorts M) x1.toNatClampNeg) = x3 then (if ((M_sorts M) x1.toNatClampNeg) = (-9 : Int32) then ((f_X4_lost (M_fault' M (0 : Int32)) (1 : Int32)).1, (f_X4_lost (M_fault' M (0 : Int32)) (1 : Int32)).2) else (if (f_X4_within x2 (0 : Int32) (((M_sheetLong M) x1.toNatClampNeg) - (1 : Int32))) = 0 then ((f_X4_lost (M_fault' M (0 : Int32)) (3 : Int32)).1, (f_X4_lost (M_fault' M (0 : Int32)) (3 : Int32)).2) else (((M_cells M) (((60 : Int32) * x1) + x2).toNatClampNeg).toInt64, (M_fault' M (0 : Int32))))) else ((f_X4_lost (M_fault' M (0 : Int32)) (2 : Int32)).1, (f_X4_lost (M_fault' M (0 : Int32)) (2 : Int32)).2)))))
theorem iw_X4_cell_4 : ∀ w ∈ wsX40, w ∈ wsX4_cell := fun _ h => List.mem_cons_of_mem _ (List.mem_append_right _ h)
set_option maxHeartbeats 4000000 in
set_option maxRecDepth 100000 in
theorem c_X4_cell (l : Launch) (D : va_G) (cI cO : ClassId) (tF : Nat) (ad : Nat → Nat) (M : MS) (x1 : Int32) (x2 : Int32) (x3 : Int32) (hL : ∀ i : Nat, i < 4 → 0 ≤ (M_sheetLong M i).toInt ∧ (M_sheetLong M i).toInt ≤ 60) : Ct l yX4_cell wsX4_cell ({ frames := 2, cells := 0, slots := 0, locals := 42 }) D cI cO tF [.ref (ad 0), .int x1, .int x2, .int x3] (wM ad cI M) (some (.long ((f_X4_cell M x1 x2 x3).1))) (wM ad cI ((f_X4_cell M x1 x2 x3).2)) := by
  refine Ct.of (cc := cX4_cell) (maxL := 4) (ret := (some .long)) (own := RX4) (by decide) rfl rfl (Nat.le_of_ble_eq_true rfl) ?_
  intro p e s m args below meth c A ls B hP hD hS hl
  obtain ⟨hx, hb, hret, hml, hts, hown, hlocks, hE, hA⟩ := id B
  have hK := hE.1
  have hl : lv_has ls 4 [(0, .ref (ad 0)), (1, .int x1), (2, .int x2), (3, .int x3)] := hl
  refine lv_aload_n hx hb dX4_cell_0 rfl (lv_at hl 0 rfl) ?_
  refine lv_iconst (v := (0 : Int32)) hx hb dX4_cell_1 (by decide) ?_
  refine va_put (D := D) (ci := 4) (v := .int (0 : Int32)) (ty := .int) (C := RX4) (T := TX4) (N := 24) hx hb hts iw_X4_cell_4 tyX4 tyX4_ok nmX4 hown hK hP hD hS 0 rfl rfl 0 (by decide) (hts (.fieldLink RX4 46 "TownLispModel" "fault" "I") (by decide +kernel)) (fun _ h9 => h9) rfl (by decide +kernel) rfl rfl (Nat.le_of_ble_eq_true rfl) dX4_cell_2 (fun H locs hP hD hS => ?_)
  have hP : va_P D vwCl (wM ad cI (M_fault' M (0 : Int32))) H := hP
  have hD : va_D A (wM ad cI (M_fault' M (0 : Int32))) := hD
  refine lv_iload_n hx hb dX4_cell_5 rfl (lv_at hl 1 rfl) ?_
  refine kc_S (As := [.int x1]) (rest := []) B (c_X4_isSheet l D cI cO tF x1 ) (va_cwS 1 hts gX4_cell_X4_isSheet rfl rfl rfl (by decide +kernel) ⟨Nat.le_of_ble_eq_true rfl, Nat.le_of_ble_eq_true rfl⟩) hP hD hS [] rfl (by decide) (w' := wM ad cI (M_fault' M (0 : Int32))) rfl rfl rfl hl.1 rfl (Nat.le_of_ble_eq_true rfl) dX4_cell_6 ⟨Nat.zero_le _, Nat.zero_le _⟩ (fun H locs hP hD hS => ?_)
  have hD : va_D A (wM ad cI (M_fault' M (0 : Int32))) := hD
  refine lv_if_eq (tgt := 19) hx hb dX4_cell_9 (by decide) (fun c_9 => ?_) (fun c_9 => ?_)
  · refine lv_ldc2 hx hb hown (hts (.constantLong RX4 50 (-9223372036854775808 : Int64)) (by decide +kernel)) dX4_cell_19 ?_
    have hF : f_X4_cell M x1 x2 x3 = ((-9223372036854775808 : Int64), (M_fault' M (0 : Int32))) := by rw [f_X4_cell, if_pos c_9]
    rw [hF]
    exact kr_l B hP hS rfl rfl dX4_cell_22
  · refine lv_iload_n hx hb dX4_cell_12 rfl (lv_at hl 3 rfl) ?_
    refine kc_S (As := [.int x3]) (rest := []) B (c_X4_isSort l D cI cO tF x3 ) (va_cwS 1 hts gX4_cell_X4_isSort rfl rfl rfl (by decide +kernel) ⟨Nat.le_of_ble_eq_true rfl, Nat.le_of_ble_eq_true rfl⟩) hP hD hS [] rfl (by decide) (w' := wM ad cI (M_fault' M (0 : Int32))) rfl rfl rfl hl.1 rfl (Nat.le_of_ble_eq_true rfl) dX4_cell_13 ⟨Nat.zero_le _, Nat.zero_le _⟩ (fun H locs hP hD hS => ?_)
    have hD : va_D A (wM ad cI (M_fault' M (0 : Int32))) := hD
    refine lv_if_ne (tgt := 23) hx hb dX4_cell_16 (by decide) (fun c_16 => ?_) (fun c_16 => ?_)
    · refine lv_aload_n hx hb dX4_cell_23 rfl (lv_at hl 0 rfl) ?_
      refine va_get (D := D) (ci := 4) (v := .ref (ad 1)) (C := RX4) (T := TX4) (N := 24) hx hb hts iw_X4_cell_4 hown hK hP 0 rfl rfl 2 (by decide) (hts (.fieldLink RX4 9 "TownLispModel" "sorts" "[I") (by decide +kernel)) (fun _ h9 => h9) rfl dX4_cell_24 ?_
      refine lv_iload_n hx hb dX4_cell_27 rfl (lv_at hl 1 rfl) ?_
      refine va_iald hx hb hK hP 1 0 rfl rfl (sh_in c_9) dX4_cell_28 ?_
      refine lv_bipush (v := (-9 : Int32)) hx hb dX4_cell_29 (by decide) ?_
      refine lv_icmp_eq (tgt := 50) hx hb dX4_cell_31 (by decide) (fun c_31 => ?_) (fun c_31 => ?_)
      · refine lv_aload_n hx hb dX4_cell_50 rfl (lv_at hl 0 rfl) ?_
        refine va_get (D := D) (ci := 4) (v := .ref (ad 1)) (C := RX4) (T := TX4) (N := 24) hx hb hts iw_X4_cell_4 hown hK hP 0 rfl rfl 2 (by decide) (hts (.fieldLink RX4 9 "TownLispModel" "sorts" "[I") (by decide +kernel)) (fun _ h9 => h9) rfl dX4_cell_51 ?_
        refine lv_iload_n hx hb dX4_cell_54 rfl (lv_at hl 1 rfl) ?_
        refine va_iald hx hb hK hP 1 0 rfl rfl (sh_in c_9) dX4_cell_55 ?_
        refine lv_bipush (v := (-9 : Int32)) hx hb dX4_cell_56 (by decide) ?_
        refine lv_icmp_ne (tgt := 67) hx hb dX4_cell_58 (by decide) (fun c_58 => ?_) (fun c_58 => ?_)
        · refine lv_iload_n hx hb dX4_cell_67 rfl (lv_at hl 2 rfl) ?_
          refine lv_iconst (v := (0 : Int32)) hx hb dX4_cell_68 (by decide) ?_
          refine lv_aload_n hx hb dX4_cell_69 rfl (lv_at hl 0 rfl) ?_
          refine va_get (D := D) (ci := 4) (v := .ref (ad 2)) (C := RX4) (T := TX4) (N := 24) hx hb hts iw_X4_cell_4 hown hK hP 0 rfl rfl 3 (by decide) (hts (.fieldLink RX4 13 "TownLispModel" "sheetLong" "[I") (by decide +kernel)) (fun _ h9 => h9) rfl dX4_cell_70 ?_
          refine lv_iload_n hx hb dX4_cell_73 rfl (lv_at hl 1 rfl) ?_
          refine va_iald hx hb hK hP 2 0 rfl rfl (sh_in c_9) dX4_cell_74 ?_
          refine lv_iconst (v := (1 : Int32)) hx hb dX4_cell_75 (by decide) ?_
          refine lv_isub hx hb dX4_cell_76 ?_
          refine kc_S (As := [.int x2, .int (0 : Int32), .int (((M_sheetLong M) x1.toNatClampNeg) - (1 : Int32))]) (rest := []) B (c_X4_within l D cI cO tF x2 (0 : Int32) (((M_sheetLong M) x1.toNatClampNeg) - (1 : Int32)) ) (va_cwS 3 hts gX4_cell_X4_within rfl rfl rfl (by decide +kernel) ⟨Nat.le_of_ble_eq_true rfl, Nat.le_of_ble_eq_true rfl⟩) hP hD hS [] rfl (by decide) (w' := wM ad cI (M_fault' M (0 : Int32))) rfl rfl rfl hl.1 rfl (Nat.le_of_ble_eq_true rfl) dX4_cell_77 ⟨Nat.zero_le _, Nat.zero_le _⟩ (fun H locs hP hD hS => ?_)
          have hD : va_D A (wM ad cI (M_fault' M (0 : Int32))) := hD
          refine lv_if_ne (tgt := 89) hx hb dX4_cell_80 (by decide) (fun c_80 => ?_) (fun c_80 => ?_)
          · refine lv_aload_n hx hb dX4_cell_89 rfl (lv_at hl 0 rfl) ?_
            refine va_get (D := D) (ci := 4) (v := .ref (ad 3)) (C := RX4) (T := TX4) (N := 24) hx hb hts iw_X4_cell_4 hown hK hP 0 rfl rfl 4 (by decide) (hts (.fieldLink RX4 16 "TownLispModel" "cells" "[I") (by decide +kernel)) (fun _ h9 => h9) rfl dX4_cell_90 ?_
            refine lv_bipush (v := (60 : Int32)) hx hb dX4_cell_93 (by decide) ?_
            refine lv_iload_n hx hb dX4_cell_95 rfl (lv_at hl 1 rfl) ?_
            refine lv_imul hx hb dX4_cell_96 ?_
            refine lv_iload_n hx hb dX4_cell_97 rfl (lv_at hl 2 rfl) ?_
            refine lv_iadd hx hb dX4_cell_98 ?_
            refine va_iald hx hb hK hP 3 0 rfl rfl (put_in (sh_in c_9) (hL _ (sh_cl (sh_in c_9))) c_80) dX4_cell_99 ?_
            refine lv_i2l (v := ((M_cells M) (((60 : Int32) * x1) + x2).toNatClampNeg).toInt64) hx hb dX4_cell_100 rfl ?_
            have hF : f_X4_cell M x1 x2 x3 = (((M_cells M) (((60 : Int32) * x1) + x2).toNatClampNeg).toInt64, (M_fault' M (0 : Int32))) := by rw [f_X4_cell, if_neg c_9, if_neg c_16, if_pos c_31, if_neg c_58, if_neg c_80]
            rw [hF]
            exact kr_l B hP hS rfl rfl dX4_cell_101
          · refine lv_aload_n hx hb dX4_cell_83 rfl (lv_at hl 0 rfl) ?_
            refine lv_iconst (v := (3 : Int32)) hx hb dX4_cell_84 (by decide) ?_
            refine kc_V (As := [.int (3 : Int32)]) (rest := []) B (c_X4_lost l D cI cO tF ad (M_fault' M (0 : Int32)) (3 : Int32) ) (cwV 1 hts gX4_cell_X4_lost rfl rfl rfl (by decide +kernel) ⟨Nat.le_of_ble_eq_true rfl, Nat.le_of_ble_eq_true rfl⟩) hP hD hS [0, 1, 2, 3, 4, 5, 6, 7, 8, 9, 10, 11, 12] wM_subA (by decide) (w' := wM ad cI ((f_X4_lost (M_fault' M (0 : Int32)) (3 : Int32)).2)) (wM_setA _) (wM_fst _) 0 4 rfl rfl rfl rfl hl.1 rfl (Nat.le_of_ble_eq_true rfl) dX4_cell_85 ⟨Nat.zero_le _, Nat.zero_le _⟩ (fun H locs hP hD hS => ?_)
            have hD : va_D A (wM ad cI ((f_X4_lost (M_fault' M (0 : Int32)) (3 : Int32)).2)) := hD
            have hF : f_X4_cell M x1 x2 x3 = ((f_X4_lost (M_fault' M (0 : Int32)) (3 : Int32)).1, (f_X4_lost (M_fault' M (0 : Int32)) (3 : Int32)).2) := by rw [f_X4_cell, if_neg c_9, if_neg c_16, if_pos c_31, if_neg c_58, if_pos c_80]
            rw [hF]
            exact kr_l B hP hS rfl rfl dX4_cell_88
        · refine lv_aload_n hx hb dX4_cell_61 rfl (lv_at hl 0 rfl) ?_
          refine lv_iconst (v := (1 : Int32)) hx hb dX4_cell_62 (by decide) ?_
          refine kc_V (As := [.int (1 : Int32)]) (rest := []) B (c_X4_lost l D cI cO tF ad (M_fault' M (0 : Int32)) (1 : Int32) ) (cwV 1 hts gX4_cell_X4_lost rfl rfl rfl (by decide +kernel) ⟨Nat.le_of_ble_eq_true rfl, Nat.le_of_ble_eq_true rfl⟩) hP hD hS [0, 1, 2, 3, 4, 5, 6, 7, 8, 9, 10, 11, 12] wM_subA (by decide) (w' := wM ad cI ((f_X4_lost (M_fault' M (0 : Int32)) (1 : Int32)).2)) (wM_setA _) (wM_fst _) 0 4 rfl rfl rfl rfl hl.1 rfl (Nat.le_of_ble_eq_true rfl) dX4_cell_63 ⟨Nat.zero_le _, Nat.zero_le _⟩ (fun H locs hP hD hS => ?_)
          have hD : va_D A (wM ad cI ((f_X4_lost (M_fault' M (0 : Int32)) (1 : Int32)).2)) := hD
          have hF : f_X4_cell M x1 x2 x3 = ((f_X4_lost (M_fault' M (0 : Int32)) (1 : Int32)).1, (f_X4_lost (M_fault' M (0 : Int32)) (1 : Int32)).2) := by rw [f_X4_cell, if_neg c_9, if_neg c_16, if_pos c_31, if_pos c_58]
          rw [hF]
          exact kr_l B hP hS rfl rfl dX4_cell_66
      · refine lv_aload_n hx hb dX4_cell_34 rfl (lv_at hl 0 rfl) ?_
        refine va_get (D := D) (ci := 4) (v := .ref (ad 1)) (C := RX4) (T := TX4) (N := 24) hx hb hts iw_X4_cell_4 hown hK hP 0 rfl rfl 2 (by decide) (hts (.fieldLink RX4 9 "TownLispModel" "sorts" "[I") (by decide +kernel)) (fun _ h9 => h9) rfl dX4_cell_35 ?_
        refine lv_iload_n hx hb dX4_cell_38 rfl (lv_at hl 1 rfl) ?_
        refine va_iald hx hb hK hP 1 0 rfl rfl (sh_in c_9) dX4_cell_39 ?_
        refine lv_iload_n hx hb dX4_cell_40 rfl (lv_at hl 3 rfl) ?_
        refine lv_icmp_eq (tgt := 50) hx hb dX4_cell_41 (by decide) (fun c_41 => ?_) (fun c_41 => ?_)
        · refine lv_aload_n hx hb dX4_cell_50 rfl (lv_at hl 0 rfl) ?_
          refine va_get (D := D) (ci := 4) (v := .ref (ad 1)) (C := RX4) (T := TX4) (N := 24) hx hb hts iw_X4_cell_4 hown hK hP 0 rfl rfl 2 (by decide) (hts (.fieldLink RX4 9 "TownLispModel" "sorts" "[I") (by decide +kernel)) (fun _ h9 => h9) rfl dX4_cell_51 ?_
          refine lv_iload_n hx hb dX4_cell_54 rfl (lv_at hl 1 rfl) ?_
          refine va_iald hx hb hK hP 1 0 rfl rfl (sh_in c_9) dX4_cell_55 ?_
          refine lv_bipush (v := (-9 : Int32)) hx hb dX4_cell_56 (by decide) ?_
          refine lv_icmp_ne (tgt := 67) hx hb dX4_cell_58 (by decide) (fun c_58 => ?_) (fun c_58 => ?_)
          · refine lv_iload_n hx hb dX4_cell_67 rfl (lv_at hl 2 rfl) ?_
            refine lv_iconst (v := (0 : Int32)) hx hb dX4_cell_68 (by decide) ?_
            refine lv_aload_n hx hb dX4_cell_69 rfl (lv_at hl 0 rfl) ?_
            refine va_get (D := D) (ci := 4) (v := .ref (ad 2)) (C := RX4) (T := TX4) (N := 24) hx hb hts iw_X4_cell_4 hown hK hP 0 rfl rfl 3 (by decide) (hts (.fieldLink RX4 13 "TownLispModel" "sheetLong" "[I") (by decide +kernel)) (fun _ h9 => h9) rfl dX4_cell_70 ?_
            refine lv_iload_n hx hb dX4_cell_73 rfl (lv_at hl 1 rfl) ?_
            refine va_iald hx hb hK hP 2 0 rfl rfl (sh_in c_9) dX4_cell_74 ?_
            refine lv_iconst (v := (1 : Int32)) hx hb dX4_cell_75 (by decide) ?_
            refine lv_isub hx hb dX4_cell_76 ?_
            refine kc_S (As := [.int x2, .int (0 : Int32), .int (((M_sheetLong M) x1.toNatClampNeg) - (1 : Int32))]) (rest := []) B (c_X4_within l D cI cO tF x2 (0 : Int32) (((M_sheetLong M) x1.toNatClampNeg) - (1 : Int32)) ) (va_cwS 3 hts gX4_cell_X4_within rfl rfl rfl (by decide +kernel) ⟨Nat.le_of_ble_eq_true rfl, Nat.le_of_ble_eq_true rfl⟩) hP hD hS [] rfl (by decide) (w' := wM ad cI (M_fault' M (0 : Int32))) rfl rfl rfl hl.1 rfl (Nat.le_of_ble_eq_true rfl) dX4_cell_77 ⟨Nat.zero_le _, Nat.zero_le _⟩ (fun H locs hP hD hS => ?_)
            have hD : va_D A (wM ad cI (M_fault' M (0 : Int32))) := hD
            refine lv_if_ne (tgt := 89) hx hb dX4_cell_80 (by decide) (fun c_80 => ?_) (fun c_80 => ?_)
            · refine lv_aload_n hx hb dX4_cell_89 rfl (lv_at hl 0 rfl) ?_
              refine va_get (D := D) (ci := 4) (v := .ref (ad 3)) (C := RX4) (T := TX4) (N := 24) hx hb hts iw_X4_cell_4 hown hK hP 0 rfl rfl 4 (by decide) (hts (.fieldLink RX4 16 "TownLispModel" "cells" "[I") (by decide +kernel)) (fun _ h9 => h9) rfl dX4_cell_90 ?_
              refine lv_bipush (v := (60 : Int32)) hx hb dX4_cell_93 (by decide) ?_
              refine lv_iload_n hx hb dX4_cell_95 rfl (lv_at hl 1 rfl) ?_
              refine lv_imul hx hb dX4_cell_96 ?_
              refine lv_iload_n hx hb dX4_cell_97 rfl (lv_at hl 2 rfl) ?_
              refine lv_iadd hx hb dX4_cell_98 ?_
              refine va_iald hx hb hK hP 3 0 rfl rfl (put_in (sh_in c_9) (hL _ (sh_cl (sh_in c_9))) c_80) dX4_cell_99 ?_
              refine lv_i2l (v := ((M_cells M) (((60 : Int32) * x1) + x2).toNatClampNeg).toInt64) hx hb dX4_cell_100 rfl ?_
              have hF : f_X4_cell M x1 x2 x3 = (((M_cells M) (((60 : Int32) * x1) + x2).toNatClampNeg).toInt64, (M_fault' M (0 : Int32))) := by rw [f_X4_cell, if_neg c_9, if_neg c_16, if_neg c_31, if_pos c_41, if_neg c_58, if_neg c_80]
              rw [hF]
              exact kr_l B hP hS rfl rfl dX4_cell_101
            · refine lv_aload_n hx hb dX4_cell_83 rfl (lv_at hl 0 rfl) ?_
              refine lv_iconst (v := (3 : Int32)) hx hb dX4_cell_84 (by decide) ?_
              refine kc_V (As := [.int (3 : Int32)]) (rest := []) B (c_X4_lost l D cI cO tF ad (M_fault' M (0 : Int32)) (3 : Int32) ) (cwV 1 hts gX4_cell_X4_lost rfl rfl rfl (by decide +kernel) ⟨Nat.le_of_ble_eq_true rfl, Nat.le_of_ble_eq_true rfl⟩) hP hD hS [0, 1, 2, 3, 4, 5, 6, 7, 8, 9, 10, 11, 12] wM_subA (by decide) (w' := wM ad cI ((f_X4_lost (M_fault' M (0 : Int32)) (3 : Int32)).2)) (wM_setA _) (wM_fst _) 0 4 rfl rfl rfl rfl hl.1 rfl (Nat.le_of_ble_eq_true rfl) dX4_cell_85 ⟨Nat.zero_le _, Nat.zero_le _⟩ (fun H locs hP hD hS => ?_)
              have hD : va_D A (wM ad cI ((f_X4_lost (M_fault' M (0 : Int32)) (3 : Int32)).2)) := hD
              have hF : f_X4_cell M x1 x2 x3 = ((f_X4_lost (M_fault' M (0 : Int32)) (3 : Int32)).1, (f_X4_lost (M_fault' M (0 : Int32)) (3 : Int32)).2) := by rw [f_X4_cell, if_neg c_9, if_neg c_16, if_neg c_31, if_pos c_41, if_neg c_58, if_pos c_80]
              rw [hF]
              exact kr_l B hP hS rfl rfl dX4_cell_88
          · refine lv_aload_n hx hb dX4_cell_61 rfl (lv_at hl 0 rfl) ?_
            refine lv_iconst (v := (1 : Int32)) hx hb dX4_cell_62 (by decide) ?_
            refine kc_V (As := [.int (1 : Int32)]) (rest := []) B (c_X4_lost l D cI cO tF ad (M_fault' M (0 : Int32)) (1 : Int32) ) (cwV 1 hts gX4_cell_X4_lost rfl rfl rfl (by decide +kernel) ⟨Nat.le_of_ble_eq_true rfl, Nat.le_of_ble_eq_true rfl⟩) hP hD hS [0, 1, 2, 3, 4, 5, 6, 7, 8, 9, 10, 11, 12] wM_subA (by decide) (w' := wM ad cI ((f_X4_lost (M_fault' M (0 : Int32)) (1 : Int32)).2)) (wM_setA _) (wM_fst _) 0 4 rfl rfl rfl rfl hl.1 rfl (Nat.le_of_ble_eq_true rfl) dX4_cell_63 ⟨Nat.zero_le _, Nat.zero_le _⟩ (fun H locs hP hD hS => ?_)
            have hD : va_D A (wM ad cI ((f_X4_lost (M_fault' M (0 : Int32)) (1 : Int32)).2)) := hD
            have hF : f_X4_cell M x1 x2 x3 = ((f_X4_lost (M_fault' M (0 : Int32)) (1 : Int32)).1, (f_X4_lost (M_fault' M (0 : Int32)) (1 : Int32)).2) := by rw [f_X4_cell, if_neg c_9, if_neg c_16, if_neg c_31, if_pos c_41, if_pos c_58]
            rw [hF]
            exact kr_l B hP hS rfl rfl dX4_cell_66
        · refine lv_aload_n hx hb dX4_cell_44 rfl (lv_at hl 0 rfl) ?_
          refine lv_iconst (v := (2 : Int32)) hx hb dX4_cell_45 (by decide) ?_
          refine kc_V (As := [.int (2 : Int32)]) (rest := []) B (c_X4_lost l D cI cO tF ad (M_fault' M (0 : Int32)) (2 : Int32) ) (cwV 1 hts gX4_cell_X4_lost rfl rfl rfl (by decide +kernel) ⟨Nat.le_of_ble_eq_true rfl, Nat.le_of_ble_eq_true rfl⟩) hP hD hS [0, 1, 2, 3, 4, 5, 6, 7, 8, 9, 10, 11, 12] wM_subA (by decide) (w' := wM ad cI ((f_X4_lost (M_fault' M (0 : Int32)) (2 : Int32)).2)) (wM_setA _) (wM_fst _) 0 4 rfl rfl rfl rfl hl.1 rfl (Nat.le_of_ble_eq_true rfl) dX4_cell_46 ⟨Nat.zero_le _, Nat.zero_le _⟩ (fun H locs hP hD hS => ?_)
          have hD : va_D A (wM ad cI ((f_X4_lost (M_fault' M (0 : Int32)) (2 : Int32)).2)) := hD
          have hF : f_X4_cell M x1 x2 x3 = ((f_X4_lost (M_fault' M (0 : Int32)) (2 : Int32)).1, (f_X4_lost (M_fault' M (0 : Int32)) (2 : Int32)).2) := by rw [f_X4_cell, if_neg c_9, if_neg c_16, if_neg c_31, if_neg c_41]
          rw [hF]
          exact kr_l B hP hS rfl rfl dX4_cell_49
    · refine lv_ldc2 hx hb hown (hts (.constantLong RX4 50 (-9223372036854775808 : Int64)) (by decide +kernel)) dX4_cell_19 ?_
      have hF : f_X4_cell M x1 x2 x3 = ((-9223372036854775808 : Int64), (M_fault' M (0 : Int32))) := by rw [f_X4_cell, if_neg c_9, if_pos c_16]
      rw [hF]
      exact kr_l B hP hS rfl rfl dX4_cell_22
def fL_X4_copy_166 (M : MS) (x1 : Int32) (x2 : Int32) (x3 : Int32) (x4 : Int32) (x5 : Int32) (x6 : Int32) (x7 : Int32) : Nat → Int32 → Int32 → (Nat → Int32) → Int32 × MS
  | 0, _, v_fault, v_cells => (0, (M_cells' (M_fault' M v_fault) v_cells))
  | k + 1, x8, v_fault, v_cells => (if x5 ≤ x8 then (x5, (M_cells' (M_fault' M v_fault) v_cells)) else (if x7 = 0 then fL_X4_copy_166 M x1 x2 x3 x4 x5 x6 x7 k (x8 + (1 : Int32)) v_fault (upd v_cells ((((60 : Int32) * x3) + x4) + x8).toNatClampNeg (v_cells ((((60 : Int32) * x1) + x2) + x8).toNatClampNeg)) else fL_X4_copy_166 M x1 x2 x3 x4 x5 x6 x7 k (x8 + (1 : Int32)) v_fault (upd v_cells ((((60 : Int32) * x3) + x4) + ((x5 - (1 : Int32)) - x8)).toNatClampNeg (v_cells ((((60 : Int32) * x1) + x2) + ((x5 - (1 : Int32)) - x8)).toNatClampNeg))))
def f_X4_copy (M : MS) (x1 : Int32) (x2 : Int32) (x3 : Int32) (x4 : Int32) (x5 : Int32) : Int32 × MS := (if (f_X4_isSheet x1) = 0 then ((-1 : Int32), (M_fault' M (0 : Int32))) else (if (f_X4_isSheet x3) = 0 then ((-1 : Int32), (M_fault' M (0 : Int32))) else (if ((M_sorts M) x1.toNatClampNeg) = (-9 : Int32) then ((f_X4_fails (M_fault' M (0 : Int32)) (1 : Int32)).1, (f_X4_fails (M_fault' M (0 : Int32)) (1 : Int32)).2) else (if ((M_sorts M) x3.toNatClampNeg) = (-9 : Int32) then ((f_X4_fails (M_fault' M (0 : Int32)) (1 : Int32)).1, (f_X4_fails (M_fault' M (0 : Int32)) (1 : Int32)).2) else (if ((M_sorts M) x1.toNatClampNeg) = ((M_sorts M) x3.toNatClampNeg) then (if x2 < 0 then ((f_X4_fails (M_fault' M (0 : Int32)) (3 : Int32)).1, (f_X4_fails (M_fault' M (0 : Int32)) (3 : Int32)).2) else (if x4 < 0 then ((f_X4_fails (M_fault' M (0 : Int32)) (3 : Int32)).1, (f_X4_fails (M_fault' M (0 : Int32)) (3 : Int32)).2) else (if x5 < 0 then ((f_X4_fails (M_fault' M (0 : Int32)) (3 : Int32)).1, (f_X4_fails (M_fault' M (0 : Int32)) (3 : Int32)).2) else (if ((M_sheetLong M) x1.toNatClampNeg) < x2 then ((f_X4_fails (M_fault' M (0 : Int32)) (3 : Int32)).1, (f_X4_fails (M_fault' M (0 : Int32)) (3 : Int32)).2) else (if ((M_sheetLong M) x3.toNatClampNeg) < x4 then ((f_X4_fails (M_fault' M (0 : Int32)) (3 : Int32)).1, (f_X4_fails (M_fault' M (0 : Int32)) (3 : Int32)).2) else (if (((M_sheetLong M) x1.toNatClampNeg) - x2) < x5 then ((f_X4_fails (M_fault' M (0 : Int32)) (3 : Int32)).1, (f_X4_fails (M_fault' M (0 : Int32)) (3 : Int32)).2) else (if x5 ≤ (((M_sheetLong M) x3.toNatClampNeg) - x4) then (if x4 ≤ x2 then fL_X4_copy_166 M x1 x2 x3 x4 x5 (1 : Int32) (0 : Int32) (x5.toInt.toNat + 1) (0 : Int32) (0 : Int32) (M_cells M) else fL_X4_copy_166 M x1 x2 x3 x4 x5 (1 : Int32) (1 : Int32) (x5.toInt.toNat + 1) (0 : Int32) (0 : Int32) (M_cells M)) else ((f_X4_fails (M_fault' M (0 : Int32)) (3 : Int32)).1, (f_X4_fails (M_fault' M (0 : Int32)) (3 : Int32)).2)))))))) else ((f_X4_fails (M_fault' M (0 : Int32)) (2 : Int32)).1, (f_X4_fails (M_fault' M (0 : Int32)) (2 : Int32)).2))))))
theorem iw_X4_copy_4 : ∀ w ∈ wsX40, w ∈ wsX4_copy := fun _ h => List.mem_cons_of_mem _ (List.mem_append_right _ h)
set_option maxHeartbeats 4000000 in
set_option maxRecDepth 100000 in
theorem L_X4_copy_166 {p : Program} (l : Launch) {e : Env} {s : State} {m : MethodId} {args : Array Value} {below : List Frame} {meth : Method} {c : Code} {A : Nat → Prop} (D : va_G) (cI cO : ClassId) (tF : Nat) (ad : Nat → Nat) (M : MS) (x1 : Int32) (x2 : Int32) (x3 : Int32) (x4 : Int32) (x5 : Int32) (x6 : Int32) (x7 : Int32) (hL : ∀ i : Nat, i < 4 → 0 ≤ (M_sheetLong M i).toInt ∧ (M_sheetLong M i).toInt ≤ 60) (B : Bx p s m args meth c cX4_copy 10 (some .int) wsX4_copy RX4 D cI cO tF A) (h1 : vp_in x1 4) (h3 : vp_in x3 4) (hi : 0 ≤ x2.toInt ∧ x2.toInt + x5.toInt ≤ 60) (hj : 0 ≤ x4.toInt ∧ x4.toInt + x5.toInt ≤ 60) (h5 : 0 ≤ x5.toInt ∧ x5.toInt ≤ 60) : ∀ (k : Nat) (x8 : Int32) (v_fault : Int32) (v_cells : (Nat → Int32)), (0 ≤ x8.toInt) → ((x5.toInt - x8.toInt).toNat < k) → ∀ (H : Heap) (locs : List Loc), va_P D vwCl (wM ad cI (M_cells' (M_fault' M v_fault) v_cells)) H → va_D A (wM ad cI (M_cells' (M_fault' M v_fault) v_cells)) → va_S A s.heap H locs → ∀ ls : Array Slot, lv_has ls 10 [(0, .ref (ad 0)), (1, .int x1), (2, .int x2), (3, .int x3), (4, .int x4), (5, .int x5), (6, .int x6), (7, .int x7), (8, .int x8)] → W p l e ({ frames := 2, cells := 0, slots := 0, locals := 42 }) s m args below meth c H locs 0 0 (MQ below (Qp D (some (.int ((fL_X4_copy_166 M x1 x2 x3 x4 x5 x6 x7 k x8 v_fault v_cells).1))) (wM ad cI ((fL_X4_copy_166 M x1 x2 x3 x4 x5 x6 x7 k x8 v_fault v_cells).2)) A) args s 0 0 A) (F0 m 166 ls []) := by
  obtain ⟨hx, hb, hret, hml, hts, hown, hlocks, hE, hA⟩ := id B
  have hK := hE.1
  intro k
  induction k with
  | zero =>
    intro x8 v_fault v_cells h0 hk
    exact absurd hk (Nat.not_lt_zero _)
  | succ k ih =>
    intro x8 v_fault v_cells h0 hk H locs hP hD hS ls hl
    refine lv_iload hx hb dX4_copy_166 (lv_at hl 8 rfl) ?_
    refine lv_iload hx hb dX4_copy_168 (lv_at hl 5 rfl) ?_
    refine lv_icmp_ge (tgt := 227) hx hb dX4_copy_170 (by decide) (fun c_170 => ?_) (fun c_170 => ?_)
    · refine lv_iload hx hb dX4_copy_227 (lv_at hl 5 rfl) ?_
      have hF : fL_X4_copy_166 M x1 x2 x3 x4 x5 x6 x7 (k + 1) x8 v_fault v_cells = (x5, (M_cells' (M_fault' M v_fault) v_cells)) := by rw [fL_X4_copy_166, if_pos c_170]
      rw [hF]
      exact kr_i B hP hS rfl rfl dX4_copy_229
    · refine lv_iload hx hb dX4_copy_173 (lv_at hl 7 rfl) ?_
      refine lv_if_eq (tgt := 188) hx hb dX4_copy_175 (by decide) (fun c_175 => ?_) (fun c_175 => ?_)
      · refine lv_iload hx hb dX4_copy_188 (lv_at hl 8 rfl) ?_
        refine lv_istore (lv' := [(9, .int x8), (0, .ref (ad 0)), (1, .int x1), (2, .int x2), (3, .int x3), (4, .int x4), (5, .int x5), (6, .int x6), (7, .int x7), (8, .int x8)]) hx hb dX4_copy_190 hl (by decide) rfl (fun ls hl => ?_)
        refine lv_aload_n hx hb dX4_copy_192 rfl (lv_at hl 1 rfl) ?_
        refine va_get (D := D) (ci := 4) (v := .ref (ad 3)) (C := RX4) (T := TX4) (N := 24) hx hb hts iw_X4_copy_4 hown hK hP 0 rfl rfl 4 (by decide) (hts (.fieldLink RX4 16 "TownLispModel" "cells" "[I") (by decide +kernel)) (fun _ h9 => h9) rfl dX4_copy_193 ?_
        refine lv_bipush (v := (60 : Int32)) hx hb dX4_copy_196 (by decide) ?_
        refine lv_iload_n hx hb dX4_copy_198 rfl (lv_at hl 4 rfl) ?_
        refine lv_imul hx hb dX4_copy_199 ?_
        refine lv_iload hx hb dX4_copy_200 (lv_at hl 5 rfl) ?_
        refine lv_iadd hx hb dX4_copy_202 ?_
        refine lv_iload hx hb dX4_copy_203 (lv_at hl 0 rfl) ?_
        refine lv_iadd hx hb dX4_copy_205 ?_
        refine lv_aload_n hx hb dX4_copy_206 rfl (lv_at hl 1 rfl) ?_
        refine va_get (D := D) (ci := 4) (v := .ref (ad 3)) (C := RX4) (T := TX4) (N := 24) hx hb hts iw_X4_copy_4 hown hK hP 0 rfl rfl 4 (by decide) (hts (.fieldLink RX4 16 "TownLispModel" "cells" "[I") (by decide +kernel)) (fun _ h9 => h9) rfl dX4_copy_207 ?_
        refine lv_bipush (v := (60 : Int32)) hx hb dX4_copy_210 (by decide) ?_
        refine lv_iload_n hx hb dX4_copy_212 rfl (lv_at hl 2 rfl) ?_
        refine lv_imul hx hb dX4_copy_213 ?_
        refine lv_iload_n hx hb dX4_copy_214 rfl (lv_at hl 3 rfl) ?_
        refine lv_iadd hx hb dX4_copy_215 ?_
        refine lv_iload hx hb dX4_copy_216 (lv_at hl 0 rfl) ?_
        refine lv_iadd hx hb dX4_copy_218 ?_
        refine va_iald hx hb hK hP 3 0 rfl rfl (by first | exact cp_in h1 hi.1 hi.2 h0 (lp_lt c_170) | exact cp_in h1 hi.1 hi.2 (cp_rev h5 h0 c_170).1 (cp_rev h5 h0 c_170).2) dX4_copy_219 ?_
        refine va_iast hx hb hK hP hD hS 3 0 rfl rfl (by first | exact cp_in h3 hj.1 hj.2 h0 (lp_lt c_170) | exact cp_in h3 hj.1 hj.2 (cp_rev h5 h0 c_170).1 (cp_rev h5 h0 c_170).2) dX4_copy_220 (fun H locs hP hD hS => ?_)
        have hP : va_P D vwCl (wM ad cI (M_cells' (M_fault' M v_fault) (upd v_cells ((((60 : Int32) * x3) + x4) + x8).toNatClampNeg (v_cells ((((60 : Int32) * x1) + x2) + x8).toNatClampNeg)))) H := hP
        have hD : va_D A (wM ad cI (M_cells' (M_fault' M v_fault) (upd v_cells ((((60 : Int32) * x3) + x4) + x8).toNatClampNeg (v_cells ((((60 : Int32) * x1) + x2) + x8).toNatClampNeg)))) := hD
        refine lv_iinc (v := (x8 + (1 : Int32))) (lv' := [(8, .int (x8 + (1 : Int32))), (9, .int x8), (0, .ref (ad 0)), (1, .int x1), (2, .int x2), (3, .int x3), (4, .int x4), (5, .int x5), (6, .int x6), (7, .int x7)]) hx hb dX4_copy_221 hl (k := 9) rfl rfl (by decide) rfl (fun ls hl => ?_)
        refine lv_goto (tgt := 166) hx hb dX4_copy_224 (by decide) ?_
        have hF : fL_X4_copy_166 M x1 x2 x3 x4 x5 x6 x7 (k + 1) x8 v_fault v_cells = fL_X4_copy_166 M x1 x2 x3 x4 x5 x6 x7 k (x8 + (1 : Int32)) v_fault (upd v_cells ((((60 : Int32) * x3) + x4) + x8).toNatClampNeg (v_cells ((((60 : Int32) * x1) + x2) + x8).toNatClampNeg)) := by rw [fL_X4_copy_166, if_neg c_170, if_pos c_175]
        rw [hF]
        exact ih (x8 + (1 : Int32)) v_fault (upd v_cells ((((60 : Int32) * x3) + x4) + x8).toNatClampNeg (v_cells ((((60 : Int32) * x1) + x2) + x8).toNatClampNeg)) (lp_pre h0 c_170) (lp_mu h0 c_170 hk) _ _ hP hD hS ls (lv_sub hl [2, 3, 4, 5, 6, 7, 8, 9, 0] rfl)
      · refine lv_iload hx hb dX4_copy_178 (lv_at hl 5 rfl) ?_
        refine lv_iconst (v := (1 : Int32)) hx hb dX4_copy_180 (by decide) ?_
        refine lv_isub hx hb dX4_copy_181 ?_
        refine lv_iload hx hb dX4_copy_182 (lv_at hl 8 rfl) ?_
        refine lv_isub hx hb dX4_copy_184 ?_
        refine lv_goto (tgt := 190) hx hb dX4_copy_185 (by decide) ?_
        refine lv_istore (lv' := [(9, .int ((x5 - (1 : Int32)) - x8)), (0, .ref (ad 0)), (1, .int x1), (2, .int x2), (3, .int x3), (4, .int x4), (5, .int x5), (6, .int x6), (7, .int x7), (8, .int x8)]) hx hb dX4_copy_190 hl (by decide) rfl (fun ls hl => ?_)
        refine lv_aload_n hx hb dX4_copy_192 rfl (lv_at hl 1 rfl) ?_
        refine va_get (D := D) (ci := 4) (v := .ref (ad 3)) (C := RX4) (T := TX4) (N := 24) hx hb hts iw_X4_copy_4 hown hK hP 0 rfl rfl 4 (by decide) (hts (.fieldLink RX4 16 "TownLispModel" "cells" "[I") (by decide +kernel)) (fun _ h9 => h9) rfl dX4_copy_193 ?_
        refine lv_bipush (v := (60 : Int32)) hx hb dX4_copy_196 (by decide) ?_
        refine lv_iload_n hx hb dX4_copy_198 rfl (lv_at hl 4 rfl) ?_
        refine lv_imul hx hb dX4_copy_199 ?_
        refine lv_iload hx hb dX4_copy_200 (lv_at hl 5 rfl) ?_
        refine lv_iadd hx hb dX4_copy_202 ?_
        refine lv_iload hx hb dX4_copy_203 (lv_at hl 0 rfl) ?_
        refine lv_iadd hx hb dX4_copy_205 ?_
        refine lv_aload_n hx hb dX4_copy_206 rfl (lv_at hl 1 rfl) ?_
        refine va_get (D := D) (ci := 4) (v := .ref (ad 3)) (C := RX4) (T := TX4) (N := 24) hx hb hts iw_X4_copy_4 hown hK hP 0 rfl rfl 4 (by decide) (hts (.fieldLink RX4 16 "TownLispModel" "cells" "[I") (by decide +kernel)) (fun _ h9 => h9) rfl dX4_copy_207 ?_
        refine lv_bipush (v := (60 : Int32)) hx hb dX4_copy_210 (by decide) ?_
        refine lv_iload_n hx hb dX4_copy_212 rfl (lv_at hl 2 rfl) ?_
        refine lv_imul hx hb dX4_copy_213 ?_
        refine lv_iload_n hx hb dX4_copy_214 rfl (lv_at hl 3 rfl) ?_
        refine lv_iadd hx hb dX4_copy_215 ?_
        refine lv_iload hx hb dX4_copy_216 (lv_at hl 0 rfl) ?_
        refine lv_iadd hx hb dX4_copy_218 ?_
        refine va_iald hx hb hK hP 3 0 rfl rfl (by first | exact cp_in h1 hi.1 hi.2 h0 (lp_lt c_170) | exact cp_in h1 hi.1 hi.2 (cp_rev h5 h0 c_170).1 (cp_rev h5 h0 c_170).2) dX4_copy_219 ?_
        refine va_iast hx hb hK hP hD hS 3 0 rfl rfl (by first | exact cp_in h3 hj.1 hj.2 h0 (lp_lt c_170) | exact cp_in h3 hj.1 hj.2 (cp_rev h5 h0 c_170).1 (cp_rev h5 h0 c_170).2) dX4_copy_220 (fun H locs hP hD hS => ?_)
        have hP : va_P D vwCl (wM ad cI (M_cells' (M_fault' M v_fault) (upd v_cells ((((60 : Int32) * x3) + x4) + ((x5 - (1 : Int32)) - x8)).toNatClampNeg (v_cells ((((60 : Int32) * x1) + x2) + ((x5 - (1 : Int32)) - x8)).toNatClampNeg)))) H := hP
        have hD : va_D A (wM ad cI (M_cells' (M_fault' M v_fault) (upd v_cells ((((60 : Int32) * x3) + x4) + ((x5 - (1 : Int32)) - x8)).toNatClampNeg (v_cells ((((60 : Int32) * x1) + x2) + ((x5 - (1 : Int32)) - x8)).toNatClampNeg)))) := hD
        refine lv_iinc (v := (x8 + (1 : Int32))) (lv' := [(8, .int (x8 + (1 : Int32))), (9, .int ((x5 - (1 : Int32)) - x8)), (0, .ref (ad 0)), (1, .int x1), (2, .int x2), (3, .int x3), (4, .int x4), (5, .int x5), (6, .int x6), (7, .int x7)]) hx hb dX4_copy_221 hl (k := 9) rfl rfl (by decide) rfl (fun ls hl => ?_)
        refine lv_goto (tgt := 166) hx hb dX4_copy_224 (by decide) ?_
        have hF : fL_X4_copy_166 M x1 x2 x3 x4 x5 x6 x7 (k + 1) x8 v_fault v_cells = fL_X4_copy_166 M x1 x2 x3 x4 x5 x6 x7 k (x8 + (1 : Int32)) v_fault (upd v_cells ((((60 : Int32) * x3) + x4) + ((x5 - (1 : Int32)) - x8)).toNatClampNeg (v_cells ((((60 : Int32) * x1) + x2) + ((x5 - (1 : Int32)) - x8)).toNatClampNeg)) := by rw [fL_X4_copy_166, if_neg c_170, if_neg c_175]
        rw [hF]
        exact ih (x8 + (1 : Int32)) v_fault (upd v_cells ((((60 : Int32) * x3) + x4) + ((x5 - (1 : Int32)) - x8)).toNatClampNeg (v_cells ((((60 : Int32) * x1) + x2) + ((x5 - (1 : Int32)) - x8)).toNatClampNeg)) (lp_pre h0 c_170) (lp_mu h0 c_170 hk) _ _ hP hD hS ls (lv_sub hl [2, 3, 4, 5, 6, 7, 8, 9, 0] rfl)
set_option maxHeartbeats 4000000 in
set_option maxRecDepth 100000 in
theorem c_X4_copy (l : Launch) (D : va_G) (cI cO : ClassId) (tF : Nat) (ad : Nat → Nat) (M : MS) (x1 : Int32) (x2 : Int32) (x3 : Int32) (x4 : Int32) (x5 : Int32) (hL : ∀ i : Nat, i < 4 → 0 ≤ (M_sheetLong M i).toInt ∧ (M_sheetLong M i).toInt ≤ 60) : Ct l yX4_copy wsX4_copy ({ frames := 2, cells := 0, slots := 0, locals := 42 }) D cI cO tF [.ref (ad 0), .int x1, .int x2, .int x3, .int x4, .int x5] (wM ad cI M) (some (.int ((f_X4_copy M x1 x2 x3 x4 x5).1))) (wM ad cI ((f_X4_copy M x1 x2 x3 x4 x5).2)) := by
  refine Ct.of (cc := cX4_copy) (maxL := 10) (ret := (some .int)) (own := RX4) (by decide) rfl rfl (Nat.le_of_ble_eq_true rfl) ?_
  intro p e s m args below meth c A ls B hP hD hS hl
  obtain ⟨hx, hb, hret, hml, hts, hown, hlocks, hE, hA⟩ := id B
  have hK := hE.1
  have hl : lv_has ls 10 [(0, .ref (ad 0)), (1, .int x1), (2, .int x2), (3, .int x3), (4, .int x4), (5, .int x5)] := hl
  refine lv_aload_n hx hb dX4_copy_0 rfl (lv_at hl 0 rfl) ?_
  refine lv_iconst (v := (0 : Int32)) hx hb dX4_copy_1 (by decide) ?_
  refine va_put (D := D) (ci := 4) (v := .int (0 : Int32)) (ty := .int) (C := RX4) (T := TX4) (N := 24) hx hb hts iw_X4_copy_4 tyX4 tyX4_ok nmX4 hown hK hP hD hS 0 rfl rfl 0 (by decide) (hts (.fieldLink RX4 46 "TownLispModel" "fault" "I") (by decide +kernel)) (fun _ h9 => h9) rfl (by decide +kernel) rfl rfl (Nat.le_of_ble_eq_true rfl) dX4_copy_2 (fun H locs hP hD hS => ?_)
  have hP : va_P D vwCl (wM ad cI (M_fault' M (0 : Int32))) H := hP
  have hD : va_D A (wM ad cI (M_fault' M (0 : Int32))) := hD
  refine lv_iload_n hx hb dX4_copy_5 rfl (lv_at hl 1 rfl) ?_
  refine kc_S (As := [.int x1]) (rest := []) B (c_X4_isSheet l D cI cO tF x1 ) (va_cwS 1 hts gX4_copy_X4_isSheet rfl rfl rfl (by decide +kernel) ⟨Nat.le_of_ble_eq_true rfl, Nat.le_of_ble_eq_true rfl⟩) hP hD hS [] rfl (by decide) (w' := wM ad cI (M_fault' M (0 : Int32))) rfl rfl rfl hl.1 rfl (Nat.le_of_ble_eq_true rfl) dX4_copy_6 ⟨Nat.zero_le _, Nat.zero_le _⟩ (fun H locs hP hD hS => ?_)
  have hD : va_D A (wM ad cI (M_fault' M (0 : Int32))) := hD
  refine lv_if_eq (tgt := 19) hx hb dX4_copy_9 (by decide) (fun c_9 => ?_) (fun c_9 => ?_)
  · refine lv_iconst (v := (-1 : Int32)) hx hb dX4_copy_19 (by decide) ?_
    have hF : f_X4_copy M x1 x2 x3 x4 x5 = ((-1 : Int32), (M_fault' M (0 : Int32))) := by rw [f_X4_copy, if_pos c_9]
    rw [hF]
    exact kr_i B hP hS rfl rfl dX4_copy_20
  · refine lv_iload_n hx hb dX4_copy_12 rfl (lv_at hl 3 rfl) ?_
    refine kc_S (As := [.int x3]) (rest := []) B (c_X4_isSheet l D cI cO tF x3 ) (va_cwS 1 hts gX4_copy_X4_isSheet rfl rfl rfl (by decide +kernel) ⟨Nat.le_of_ble_eq_true rfl, Nat.le_of_ble_eq_true rfl⟩) hP hD hS [] rfl (by decide) (w' := wM ad cI (M_fault' M (0 : Int32))) rfl rfl rfl hl.1 rfl (Nat.le_of_ble_eq_true rfl) dX4_copy_13 ⟨Nat.zero_le _, Nat.zero_le _⟩ (fun H locs hP hD hS => ?_)
    have hD : va_D A (wM ad cI (M_fault' M (0 : Int32))) := hD
    refine lv_if_ne (tgt := 21) hx hb dX4_copy_16 (by decide) (fun c_16 => ?_) (fun c_16 => ?_)
    · refine lv_aload_n hx hb dX4_copy_21 rfl (lv_at hl 0 rfl) ?_
      refine va_get (D := D) (ci := 4) (v := .ref (ad 1)) (C := RX4) (T := TX4) (N := 24) hx hb hts iw_X4_copy_4 hown hK hP 0 rfl rfl 2 (by decide) (hts (.fieldLink RX4 9 "TownLispModel" "sorts" "[I") (by decide +kernel)) (fun _ h9 => h9) rfl dX4_copy_22 ?_
      refine lv_iload_n hx hb dX4_copy_25 rfl (lv_at hl 1 rfl) ?_
      refine va_iald hx hb hK hP 1 0 rfl rfl (sh_in c_9) dX4_copy_26 ?_
      refine lv_bipush (v := (-9 : Int32)) hx hb dX4_copy_27 (by decide) ?_
      refine lv_icmp_eq (tgt := 43) hx hb dX4_copy_29 (by decide) (fun c_29 => ?_) (fun c_29 => ?_)
      · refine lv_aload_n hx hb dX4_copy_43 rfl (lv_at hl 0 rfl) ?_
        refine lv_iconst (v := (1 : Int32)) hx hb dX4_copy_44 (by decide) ?_
        refine kc_V (As := [.int (1 : Int32)]) (rest := []) B (c_X4_fails l D cI cO tF ad (M_fault' M (0 : Int32)) (1 : Int32) ) (cwV 1 hts gX4_copy_X4_fails rfl rfl rfl (by decide +kernel) ⟨Nat.le_of_ble_eq_true rfl, Nat.le_of_ble_eq_true rfl⟩) hP hD hS [0, 1, 2, 3, 4, 5, 6, 7, 8, 9, 10, 11, 12] wM_subA (by decide) (w' := wM ad cI ((f_X4_fails (M_fault' M (0 : Int32)) (1 : Int32)).2)) (wM_setA _) (wM_fst _) 0 4 rfl rfl rfl rfl hl.1 rfl (Nat.le_of_ble_eq_true rfl) dX4_copy_45 ⟨Nat.zero_le _, Nat.zero_le _⟩ (fun H locs hP hD hS => ?_)
        have hD : va_D A (wM ad cI ((f_X4_fails (M_fault' M (0 : Int32)) (1 : Int32)).2)) := hD
        have hF : f_X4_copy M x1 x2 x3 x4 x5 = ((f_X4_fails (M_fault' M (0 : Int32)) (1 : Int32)).1, (f_X4_fails (M_fault' M (0 : Int32)) (1 : Int32)).2) := by rw [f_X4_copy, if_neg c_9, if_neg c_16, if_pos c_29]
        rw [hF]
        exact kr_i B hP hS rfl rfl dX4_copy_48
      · refine lv_aload_n hx hb dX4_copy_32 rfl (lv_at hl 0 rfl) ?_
        refine va_get (D := D) (ci := 4) (v := .ref (ad 1)) (C := RX4) (T := TX4) (N := 24) hx hb hts iw_X4_copy_4 hown hK hP 0 rfl rfl 2 (by decide) (hts (.fieldLink RX4 9 "TownLispModel" "sorts" "[I") (by decide +kernel)) (fun _ h9 => h9) rfl dX4_copy_33 ?_
        refine lv_iload_n hx hb dX4_copy_36 rfl (lv_at hl 3 rfl) ?_
        refine va_iald hx hb hK hP 1 0 rfl rfl (sh_in c_16) dX4_copy_37 ?_
        refine lv_bipush (v := (-9 : Int32)) hx hb dX4_copy_38 (by decide) ?_
        refine lv_icmp_ne (tgt := 49) hx hb dX4_copy_40 (by decide) (fun c_40 => ?_) (fun c_40 => ?_)
        · refine lv_aload_n hx hb dX4_copy_49 rfl (lv_at hl 0 rfl) ?_
          refine va_get (D := D) (ci := 4) (v := .ref (ad 1)) (C := RX4) (T := TX4) (N := 24) hx hb hts iw_X4_copy_4 hown hK hP 0 rfl rfl 2 (by decide) (hts (.fieldLink RX4 9 "TownLispModel" "sorts" "[I") (by decide +kernel)) (fun _ h9 => h9) rfl dX4_copy_50 ?_
          refine lv_iload_n hx hb dX4_copy_53 rfl (lv_at hl 1 rfl) ?_
          refine va_iald hx hb hK hP 1 0 rfl rfl (sh_in c_9) dX4_copy_54 ?_
          refine lv_aload_n hx hb dX4_copy_55 rfl (lv_at hl 0 rfl) ?_
          refine va_get (D := D) (ci := 4) (v := .ref (ad 1)) (C := RX4) (T := TX4) (N := 24) hx hb hts iw_X4_copy_4 hown hK hP 0 rfl rfl 2 (by decide) (hts (.fieldLink RX4 9 "TownLispModel" "sorts" "[I") (by decide +kernel)) (fun _ h9 => h9) rfl dX4_copy_56 ?_
          refine lv_iload_n hx hb dX4_copy_59 rfl (lv_at hl 3 rfl) ?_
          refine va_iald hx hb hK hP 1 0 rfl rfl (sh_in c_16) dX4_copy_60 ?_
          refine lv_icmp_eq (tgt := 70) hx hb dX4_copy_61 (by decide) (fun c_61 => ?_) (fun c_61 => ?_)
          · refine lv_iload_n hx hb dX4_copy_70 rfl (lv_at hl 2 rfl) ?_
            refine lv_if_lt (tgt := 109) hx hb dX4_copy_71 (by decide) (fun c_71 => ?_) (fun c_71 => ?_)
            · refine lv_iconst (v := (0 : Int32)) hx hb dX4_copy_109 (by decide) ?_
              refine lv_istore (lv' := [(6, .int (0 : Int32)), (0, .ref (ad 0)), (1, .int x1), (2, .int x2), (3, .int x3), (4, .int x4), (5, .int x5)]) hx hb dX4_copy_110 hl (by decide) rfl (fun ls hl => ?_)
              refine lv_iload hx hb dX4_copy_112 (lv_at hl 0 rfl) ?_
              refine lv_if_eq (tgt := 144) hx hb dX4_copy_114 (by decide) (fun _ => ?_) (fun h => absurd h (by decide))
              refine lv_aload_n hx hb dX4_copy_144 rfl (lv_at hl 1 rfl) ?_
              refine lv_iconst (v := (3 : Int32)) hx hb dX4_copy_145 (by decide) ?_
              refine kc_V (As := [.int (3 : Int32)]) (rest := []) B (c_X4_fails l D cI cO tF ad (M_fault' M (0 : Int32)) (3 : Int32) ) (cwV 1 hts gX4_copy_X4_fails rfl rfl rfl (by decide +kernel) ⟨Nat.le_of_ble_eq_true rfl, Nat.le_of_ble_eq_true rfl⟩) hP hD hS [0, 1, 2, 3, 4, 5, 6, 7, 8, 9, 10, 11, 12] wM_subA (by decide) (w' := wM ad cI ((f_X4_fails (M_fault' M (0 : Int32)) (3 : Int32)).2)) (wM_setA _) (wM_fst _) 0 4 rfl rfl rfl rfl hl.1 rfl (Nat.le_of_ble_eq_true rfl) dX4_copy_146 ⟨Nat.zero_le _, Nat.zero_le _⟩ (fun H locs hP hD hS => ?_)
              have hD : va_D A (wM ad cI ((f_X4_fails (M_fault' M (0 : Int32)) (3 : Int32)).2)) := hD
              have hF : f_X4_copy M x1 x2 x3 x4 x5 = ((f_X4_fails (M_fault' M (0 : Int32)) (3 : Int32)).1, (f_X4_fails (M_fault' M (0 : Int32)) (3 : Int32)).2) := by rw [f_X4_copy, if_neg c_9, if_neg c_16, if_neg c_29, if_neg c_40, if_pos c_61, if_pos c_71]
              rw [hF]
              exact kr_i B hP hS rfl rfl dX4_copy_149
            · refine lv_iload hx hb dX4_copy_74 (lv_at hl 4 rfl) ?_
              refine lv_if_lt (tgt := 109) hx hb dX4_copy_76 (by decide) (fun c_76 => ?_) (fun c_76 => ?_)
              · refine lv_iconst (v := (0 : Int32)) hx hb dX4_copy_109 (by decide) ?_
                refine lv_istore (lv' := [(6, .int (0 : Int32)), (0, .ref (ad 0)), (1, .int x1), (2, .int x2), (3, .int x3), (4, .int x4), (5, .int x5)]) hx hb dX4_copy_110 hl (by decide) rfl (fun ls hl => ?_)
                refine lv_iload hx hb dX4_copy_112 (lv_at hl 0 rfl) ?_
                refine lv_if_eq (tgt := 144) hx hb dX4_copy_114 (by decide) (fun _ => ?_) (fun h => absurd h (by decide))
                refine lv_aload_n hx hb dX4_copy_144 rfl (lv_at hl 1 rfl) ?_
                refine lv_iconst (v := (3 : Int32)) hx hb dX4_copy_145 (by decide) ?_
                refine kc_V (As := [.int (3 : Int32)]) (rest := []) B (c_X4_fails l D cI cO tF ad (M_fault' M (0 : Int32)) (3 : Int32) ) (cwV 1 hts gX4_copy_X4_fails rfl rfl rfl (by decide +kernel) ⟨Nat.le_of_ble_eq_true rfl, Nat.le_of_ble_eq_true rfl⟩) hP hD hS [0, 1, 2, 3, 4, 5, 6, 7, 8, 9, 10, 11, 12] wM_subA (by decide) (w' := wM ad cI ((f_X4_fails (M_fault' M (0 : Int32)) (3 : Int32)).2)) (wM_setA _) (wM_fst _) 0 4 rfl rfl rfl rfl hl.1 rfl (Nat.le_of_ble_eq_true rfl) dX4_copy_146 ⟨Nat.zero_le _, Nat.zero_le _⟩ (fun H locs hP hD hS => ?_)
                have hD : va_D A (wM ad cI ((f_X4_fails (M_fault' M (0 : Int32)) (3 : Int32)).2)) := hD
                have hF : f_X4_copy M x1 x2 x3 x4 x5 = ((f_X4_fails (M_fault' M (0 : Int32)) (3 : Int32)).1, (f_X4_fails (M_fault' M (0 : Int32)) (3 : Int32)).2) := by rw [f_X4_copy, if_neg c_9, if_neg c_16, if_neg c_29, if_neg c_40, if_pos c_61, if_neg c_71, if_pos c_76]
                rw [hF]
                exact kr_i B hP hS rfl rfl dX4_copy_149
              · refine lv_iload hx hb dX4_copy_79 (lv_at hl 5 rfl) ?_
                refine lv_if_lt (tgt := 109) hx hb dX4_copy_81 (by decide) (fun c_81 => ?_) (fun c_81 => ?_)
                · refine lv_iconst (v := (0 : Int32)) hx hb dX4_copy_109 (by decide) ?_
                  refine lv_istore (lv' := [(6, .int (0 : Int32)), (0, .ref (ad 0)), (1, .int x1), (2, .int x2), (3, .int x3), (4, .int x4), (5, .int x5)]) hx hb dX4_copy_110 hl (by decide) rfl (fun ls hl => ?_)
                  refine lv_iload hx hb dX4_copy_112 (lv_at hl 0 rfl) ?_
                  refine lv_if_eq (tgt := 144) hx hb dX4_copy_114 (by decide) (fun _ => ?_) (fun h => absurd h (by decide))
                  refine lv_aload_n hx hb dX4_copy_144 rfl (lv_at hl 1 rfl) ?_
                  refine lv_iconst (v := (3 : Int32)) hx hb dX4_copy_145 (by decide) ?_
                  refine kc_V (As := [.int (3 : Int32)]) (rest := []) B (c_X4_fails l D cI cO tF ad (M_fault' M (0 : Int32)) (3 : Int32) ) (cwV 1 hts gX4_copy_X4_fails rfl rfl rfl (by decide +kernel) ⟨Nat.le_of_ble_eq_true rfl, Nat.le_of_ble_eq_true rfl⟩) hP hD hS [0, 1, 2, 3, 4, 5, 6, 7, 8, 9, 10, 11, 12] wM_subA (by decide) (w' := wM ad cI ((f_X4_fails (M_fault' M (0 : Int32)) (3 : Int32)).2)) (wM_setA _) (wM_fst _) 0 4 rfl rfl rfl rfl hl.1 rfl (Nat.le_of_ble_eq_true rfl) dX4_copy_146 ⟨Nat.zero_le _, Nat.zero_le _⟩ (fun H locs hP hD hS => ?_)
                  have hD : va_D A (wM ad cI ((f_X4_fails (M_fault' M (0 : Int32)) (3 : Int32)).2)) := hD
                  have hF : f_X4_copy M x1 x2 x3 x4 x5 = ((f_X4_fails (M_fault' M (0 : Int32)) (3 : Int32)).1, (f_X4_fails (M_fault' M (0 : Int32)) (3 : Int32)).2) := by rw [f_X4_copy, if_neg c_9, if_neg c_16, if_neg c_29, if_neg c_40, if_pos c_61, if_neg c_71, if_neg c_76, if_pos c_81]
                  rw [hF]
                  exact kr_i B hP hS rfl rfl dX4_copy_149
                · refine lv_iload_n hx hb dX4_copy_84 rfl (lv_at hl 2 rfl) ?_
                  refine lv_aload_n hx hb dX4_copy_85 rfl (lv_at hl 0 rfl) ?_
                  refine va_get (D := D) (ci := 4) (v := .ref (ad 2)) (C := RX4) (T := TX4) (N := 24) hx hb hts iw_X4_copy_4 hown hK hP 0 rfl rfl 3 (by decide) (hts (.fieldLink RX4 13 "TownLispModel" "sheetLong" "[I") (by decide +kernel)) (fun _ h9 => h9) rfl dX4_copy_86 ?_
                  refine lv_iload_n hx hb dX4_copy_89 rfl (lv_at hl 1 rfl) ?_
                  refine va_iald hx hb hK hP 2 0 rfl rfl (sh_in c_9) dX4_copy_90 ?_
                  refine lv_icmp_gt (tgt := 109) hx hb dX4_copy_91 (by decide) (fun c_91 => ?_) (fun c_91 => ?_)
                  · refine lv_iconst (v := (0 : Int32)) hx hb dX4_copy_109 (by decide) ?_
                    refine lv_istore (lv' := [(6, .int (0 : Int32)), (0, .ref (ad 0)), (1, .int x1), (2, .int x2), (3, .int x3), (4, .int x4), (5, .int x5)]) hx hb dX4_copy_110 hl (by decide) rfl (fun ls hl => ?_)
                    refine lv_iload hx hb dX4_copy_112 (lv_at hl 0 rfl) ?_
                    refine lv_if_eq (tgt := 144) hx hb dX4_copy_114 (by decide) (fun _ => ?_) (fun h => absurd h (by decide))
                    refine lv_aload_n hx hb dX4_copy_144 rfl (lv_at hl 1 rfl) ?_
                    refine lv_iconst (v := (3 : Int32)) hx hb dX4_copy_145 (by decide) ?_
                    refine kc_V (As := [.int (3 : Int32)]) (rest := []) B (c_X4_fails l D cI cO tF ad (M_fault' M (0 : Int32)) (3 : Int32) ) (cwV 1 hts gX4_copy_X4_fails rfl rfl rfl (by decide +kernel) ⟨Nat.le_of_ble_eq_true rfl, Nat.le_of_ble_eq_true rfl⟩) hP hD hS [0, 1, 2, 3, 4, 5, 6, 7, 8, 9, 10, 11, 12] wM_subA (by decide) (w' := wM ad cI ((f_X4_fails (M_fault' M (0 : Int32)) (3 : Int32)).2)) (wM_setA _) (wM_fst _) 0 4 rfl rfl rfl rfl hl.1 rfl (Nat.le_of_ble_eq_true rfl) dX4_copy_146 ⟨Nat.zero_le _, Nat.zero_le _⟩ (fun H locs hP hD hS => ?_)
                    have hD : va_D A (wM ad cI ((f_X4_fails (M_fault' M (0 : Int32)) (3 : Int32)).2)) := hD
                    have hF : f_X4_copy M x1 x2 x3 x4 x5 = ((f_X4_fails (M_fault' M (0 : Int32)) (3 : Int32)).1, (f_X4_fails (M_fault' M (0 : Int32)) (3 : Int32)).2) := by rw [f_X4_copy, if_neg c_9, if_neg c_16, if_neg c_29, if_neg c_40, if_pos c_61, if_neg c_71, if_neg c_76, if_neg c_81, if_pos c_91]
                    rw [hF]
                    exact kr_i B hP hS rfl rfl dX4_copy_149
                  · refine lv_iload hx hb dX4_copy_94 (lv_at hl 4 rfl) ?_
                    refine lv_aload_n hx hb dX4_copy_96 rfl (lv_at hl 0 rfl) ?_
                    refine va_get (D := D) (ci := 4) (v := .ref (ad 2)) (C := RX4) (T := TX4) (N := 24) hx hb hts iw_X4_copy_4 hown hK hP 0 rfl rfl 3 (by decide) (hts (.fieldLink RX4 13 "TownLispModel" "sheetLong" "[I") (by decide +kernel)) (fun _ h9 => h9) rfl dX4_copy_97 ?_
                    refine lv_iload_n hx hb dX4_copy_100 rfl (lv_at hl 3 rfl) ?_
                    refine va_iald hx hb hK hP 2 0 rfl rfl (sh_in c_16) dX4_copy_101 ?_
                    refine lv_icmp_gt (tgt := 109) hx hb dX4_copy_102 (by decide) (fun c_102 => ?_) (fun c_102 => ?_)
                    · refine lv_iconst (v := (0 : Int32)) hx hb dX4_copy_109 (by decide) ?_
                      refine lv_istore (lv' := [(6, .int (0 : Int32)), (0, .ref (ad 0)), (1, .int x1), (2, .int x2), (3, .int x3), (4, .int x4), (5, .int x5)]) hx hb dX4_copy_110 hl (by decide) rfl (fun ls hl => ?_)
                      refine lv_iload hx hb dX4_copy_112 (lv_at hl 0 rfl) ?_
                      refine lv_if_eq (tgt := 144) hx hb dX4_copy_114 (by decide) (fun _ => ?_) (fun h => absurd h (by decide))
                      refine lv_aload_n hx hb dX4_copy_144 rfl (lv_at hl 1 rfl) ?_
                      refine lv_iconst (v := (3 : Int32)) hx hb dX4_copy_145 (by decide) ?_
                      refine kc_V (As := [.int (3 : Int32)]) (rest := []) B (c_X4_fails l D cI cO tF ad (M_fault' M (0 : Int32)) (3 : Int32) ) (cwV 1 hts gX4_copy_X4_fails rfl rfl rfl (by decide +kernel) ⟨Nat.le_of_ble_eq_true rfl, Nat.le_of_ble_eq_true rfl⟩) hP hD hS [0, 1, 2, 3, 4, 5, 6, 7, 8, 9, 10, 11, 12] wM_subA (by decide) (w' := wM ad cI ((f_X4_fails (M_fault' M (0 : Int32)) (3 : Int32)).2)) (wM_setA _) (wM_fst _) 0 4 rfl rfl rfl rfl hl.1 rfl (Nat.le_of_ble_eq_true rfl) dX4_copy_146 ⟨Nat.zero_le _, Nat.zero_le _⟩ (fun H locs hP hD hS => ?_)
                      have hD : va_D A (wM ad cI ((f_X4_fails (M_fault' M (0 : Int32)) (3 : Int32)).2)) := hD
                      have hF : f_X4_copy M x1 x2 x3 x4 x5 = ((f_X4_fails (M_fault' M (0 : Int32)) (3 : Int32)).1, (f_X4_fails (M_fault' M (0 : Int32)) (3 : Int32)).2) := by rw [f_X4_copy, if_neg c_9, if_neg c_16, if_neg c_29, if_neg c_40, if_pos c_61, if_neg c_71, if_neg c_76, if_neg c_81, if_neg c_91, if_pos c_102]
                      rw [hF]
                      exact kr_i B hP hS rfl rfl dX4_copy_149
                    · refine lv_iconst (v := (1 : Int32)) hx hb dX4_copy_105 (by decide) ?_
                      refine lv_goto (tgt := 110) hx hb dX4_copy_106 (by decide) ?_
                      refine lv_istore (lv' := [(6, .int (1 : Int32)), (0, .ref (ad 0)), (1, .int x1), (2, .int x2), (3, .int x3), (4, .int x4), (5, .int x5)]) hx hb dX4_copy_110 hl (by decide) rfl (fun ls hl => ?_)
                      refine lv_iload hx hb dX4_copy_112 (lv_at hl 0 rfl) ?_
                      refine lv_if_eq (tgt := 144) hx hb dX4_copy_114 (by decide) (fun h => absurd h (by decide)) (fun _ => ?_)
                      refine lv_iload hx hb dX4_copy_117 (lv_at hl 6 rfl) ?_
                      refine lv_aload_n hx hb dX4_copy_119 rfl (lv_at hl 1 rfl) ?_
                      refine va_get (D := D) (ci := 4) (v := .ref (ad 2)) (C := RX4) (T := TX4) (N := 24) hx hb hts iw_X4_copy_4 hown hK hP 0 rfl rfl 3 (by decide) (hts (.fieldLink RX4 13 "TownLispModel" "sheetLong" "[I") (by decide +kernel)) (fun _ h9 => h9) rfl dX4_copy_120 ?_
                      refine lv_iload_n hx hb dX4_copy_123 rfl (lv_at hl 2 rfl) ?_
                      refine va_iald hx hb hK hP 2 0 rfl rfl (sh_in c_9) dX4_copy_124 ?_
                      refine lv_iload_n hx hb dX4_copy_125 rfl (lv_at hl 3 rfl) ?_
                      refine lv_isub hx hb dX4_copy_126 ?_
                      refine lv_icmp_gt (tgt := 144) hx hb dX4_copy_127 (by decide) (fun c_127 => ?_) (fun c_127 => ?_)
                      · refine lv_aload_n hx hb dX4_copy_144 rfl (lv_at hl 1 rfl) ?_
                        refine lv_iconst (v := (3 : Int32)) hx hb dX4_copy_145 (by decide) ?_
                        refine kc_V (As := [.int (3 : Int32)]) (rest := []) B (c_X4_fails l D cI cO tF ad (M_fault' M (0 : Int32)) (3 : Int32) ) (cwV 1 hts gX4_copy_X4_fails rfl rfl rfl (by decide +kernel) ⟨Nat.le_of_ble_eq_true rfl, Nat.le_of_ble_eq_true rfl⟩) hP hD hS [0, 1, 2, 3, 4, 5, 6, 7, 8, 9, 10, 11, 12] wM_subA (by decide) (w' := wM ad cI ((f_X4_fails (M_fault' M (0 : Int32)) (3 : Int32)).2)) (wM_setA _) (wM_fst _) 0 4 rfl rfl rfl rfl hl.1 rfl (Nat.le_of_ble_eq_true rfl) dX4_copy_146 ⟨Nat.zero_le _, Nat.zero_le _⟩ (fun H locs hP hD hS => ?_)
                        have hD : va_D A (wM ad cI ((f_X4_fails (M_fault' M (0 : Int32)) (3 : Int32)).2)) := hD
                        have hF : f_X4_copy M x1 x2 x3 x4 x5 = ((f_X4_fails (M_fault' M (0 : Int32)) (3 : Int32)).1, (f_X4_fails (M_fault' M (0 : Int32)) (3 : Int32)).2) := by rw [f_X4_copy, if_neg c_9, if_neg c_16, if_neg c_29, if_neg c_40, if_pos c_61, if_neg c_71, if_neg c_76, if_neg c_81, if_neg c_91, if_neg c_102, if_pos c_127]
                        rw [hF]
                        exact kr_i B hP hS rfl rfl dX4_copy_149
                      · refine lv_iload hx hb dX4_copy_130 (lv_at hl 6 rfl) ?_
                        refine lv_aload_n hx hb dX4_copy_132 rfl (lv_at hl 1 rfl) ?_
                        refine va_get (D := D) (ci := 4) (v := .ref (ad 2)) (C := RX4) (T := TX4) (N := 24) hx hb hts iw_X4_copy_4 hown hK hP 0 rfl rfl 3 (by decide) (hts (.fieldLink RX4 13 "TownLispModel" "sheetLong" "[I") (by decide +kernel)) (fun _ h9 => h9) rfl dX4_copy_133 ?_
                        refine lv_iload_n hx hb dX4_copy_136 rfl (lv_at hl 4 rfl) ?_
                        refine va_iald hx hb hK hP 2 0 rfl rfl (sh_in c_16) dX4_copy_137 ?_
                        refine lv_iload hx hb dX4_copy_138 (lv_at hl 5 rfl) ?_
                        refine lv_isub hx hb dX4_copy_140 ?_
                        refine lv_icmp_le (tgt := 150) hx hb dX4_copy_141 (by decide) (fun c_141 => ?_) (fun c_141 => ?_)
                        · refine lv_iload_n hx hb dX4_copy_150 rfl (lv_at hl 3 rfl) ?_
                          refine lv_iload hx hb dX4_copy_151 (lv_at hl 5 rfl) ?_
                          refine lv_icmp_ge (tgt := 160) hx hb dX4_copy_153 (by decide) (fun c_153 => ?_) (fun c_153 => ?_)
                          · refine lv_iconst (v := (0 : Int32)) hx hb dX4_copy_160 (by decide) ?_
                            refine lv_istore (lv' := [(7, .int (0 : Int32)), (6, .int (1 : Int32)), (0, .ref (ad 0)), (1, .int x1), (2, .int x2), (3, .int x3), (4, .int x4), (5, .int x5)]) hx hb dX4_copy_161 hl (by decide) rfl (fun ls hl => ?_)
                            refine lv_iconst (v := (0 : Int32)) hx hb dX4_copy_163 (by decide) ?_
                            refine lv_istore (lv' := [(8, .int (0 : Int32)), (7, .int (0 : Int32)), (6, .int (1 : Int32)), (0, .ref (ad 0)), (1, .int x1), (2, .int x2), (3, .int x3), (4, .int x4), (5, .int x5)]) hx hb dX4_copy_164 hl (by decide) rfl (fun ls hl => ?_)
                            have hF : f_X4_copy M x1 x2 x3 x4 x5 = fL_X4_copy_166 M x1 x2 x3 x4 x5 (1 : Int32) (0 : Int32) (x5.toInt.toNat + 1) (0 : Int32) (0 : Int32) (M_cells M) := by rw [f_X4_copy, if_neg c_9, if_neg c_16, if_neg c_29, if_neg c_40, if_pos c_61, if_neg c_71, if_neg c_76, if_neg c_81, if_neg c_91, if_neg c_102, if_neg c_127, if_pos c_141, if_pos c_153]
                            rw [hF]
                            exact L_X4_copy_166 l D cI cO tF ad M x1 x2 x3 x4 x5 (1 : Int32) (0 : Int32) hL B (sh_in c_9) (sh_in c_16) (cp_len (hL _ (sh_cl (sh_in c_9))) c_71 c_91 (fa_of_nlt c_127)) (cp_len (hL _ (sh_cl (sh_in c_16))) c_76 c_102 c_141) (cp_nn (hL _ (sh_cl (sh_in c_9))) c_71 c_91 c_81 (fa_of_nlt c_127)) (x5.toInt.toNat + 1) (0 : Int32) (0 : Int32) (M_cells M) (Int.le_refl _) (by rw [show (0 : Int32).toInt = 0 from rfl]; omega) _ _ hP hD hS ls (lv_sub hl [3, 4, 5, 6, 7, 8, 2, 1, 0] rfl)
                          · refine lv_iconst (v := (1 : Int32)) hx hb dX4_copy_156 (by decide) ?_
                            refine lv_goto (tgt := 161) hx hb dX4_copy_157 (by decide) ?_
                            refine lv_istore (lv' := [(7, .int (1 : Int32)), (6, .int (1 : Int32)), (0, .ref (ad 0)), (1, .int x1), (2, .int x2), (3, .int x3), (4, .int x4), (5, .int x5)]) hx hb dX4_copy_161 hl (by decide) rfl (fun ls hl => ?_)
                            refine lv_iconst (v := (0 : Int32)) hx hb dX4_copy_163 (by decide) ?_
                            refine lv_istore (lv' := [(8, .int (0 : Int32)), (7, .int (1 : Int32)), (6, .int (1 : Int32)), (0, .ref (ad 0)), (1, .int x1), (2, .int x2), (3, .int x3), (4, .int x4), (5, .int x5)]) hx hb dX4_copy_164 hl (by decide) rfl (fun ls hl => ?_)
                            have hF : f_X4_copy M x1 x2 x3 x4 x5 = fL_X4_copy_166 M x1 x2 x3 x4 x5 (1 : Int32) (1 : Int32) (x5.toInt.toNat + 1) (0 : Int32) (0 : Int32) (M_cells M) := by rw [f_X4_copy, if_neg c_9, if_neg c_16, if_neg c_29, if_neg c_40, if_pos c_61, if_neg c_71, if_neg c_76, if_neg c_81, if_neg c_91, if_neg c_102, if_neg c_127, if_pos c_141, if_neg c_153]
                            rw [hF]
                            exact L_X4_copy_166 l D cI cO tF ad M x1 x2 x3 x4 x5 (1 : Int32) (1 : Int32) hL B (sh_in c_9) (sh_in c_16) (cp_len (hL _ (sh_cl (sh_in c_9))) c_71 c_91 (fa_of_nlt c_127)) (cp_len (hL _ (sh_cl (sh_in c_16))) c_76 c_102 c_141) (cp_nn (hL _ (sh_cl (sh_in c_9))) c_71 c_91 c_81 (fa_of_nlt c_127)) (x5.toInt.toNat + 1) (0 : Int32) (0 : Int32) (M_cells M) (Int.le_refl _) (by rw [show (0 : Int32).toInt = 0 from rfl]; omega) _ _ hP hD hS ls (lv_sub hl [3, 4, 5, 6, 7, 8, 2, 1, 0] rfl)
                        · refine lv_aload_n hx hb dX4_copy_144 rfl (lv_at hl 1 rfl) ?_
                          refine lv_iconst (v := (3 : Int32)) hx hb dX4_copy_145 (by decide) ?_
                          refine kc_V (As := [.int (3 : Int32)]) (rest := []) B (c_X4_fails l D cI cO tF ad (M_fault' M (0 : Int32)) (3 : Int32) ) (cwV 1 hts gX4_copy_X4_fails rfl rfl rfl (by decide +kernel) ⟨Nat.le_of_ble_eq_true rfl, Nat.le_of_ble_eq_true rfl⟩) hP hD hS [0, 1, 2, 3, 4, 5, 6, 7, 8, 9, 10, 11, 12] wM_subA (by decide) (w' := wM ad cI ((f_X4_fails (M_fault' M (0 : Int32)) (3 : Int32)).2)) (wM_setA _) (wM_fst _) 0 4 rfl rfl rfl rfl hl.1 rfl (Nat.le_of_ble_eq_true rfl) dX4_copy_146 ⟨Nat.zero_le _, Nat.zero_le _⟩ (fun H locs hP hD hS => ?_)
                          have hD : va_D A (wM ad cI ((f_X4_fails (M_fault' M (0 : Int32)) (3 : Int32)).2)) := hD
                          have hF : f_X4_copy M x1 x2 x3 x4 x5 = ((f_X4_fails (M_fault' M (0 : Int32)) (3 : Int32)).1, (f_X4_fails (M_fault' M (0 : Int32)) (3 : Int32)).2) := by rw [f_X4_copy, if_neg c_9, if_neg c_16, if_neg c_29, if_neg c_40, if_pos c_61, if_neg c_71, if_neg c_76, if_neg c_81, if_neg c_91, if_neg c_102, if_neg c_127, if_neg c_141]
                          rw [hF]
                          exact kr_i B hP hS rfl rfl dX4_copy_149
          · refine lv_aload_n hx hb dX4_copy_64 rfl (lv_at hl 0 rfl) ?_
            refine lv_iconst (v := (2 : Int32)) hx hb dX4_copy_65 (by decide) ?_
            refine kc_V (As := [.int (2 : Int32)]) (rest := []) B (c_X4_fails l D cI cO tF ad (M_fault' M (0 : Int32)) (2 : Int32) ) (cwV 1 hts gX4_copy_X4_fails rfl rfl rfl (by decide +kernel) ⟨Nat.le_of_ble_eq_true rfl, Nat.le_of_ble_eq_true rfl⟩) hP hD hS [0, 1, 2, 3, 4, 5, 6, 7, 8, 9, 10, 11, 12] wM_subA (by decide) (w' := wM ad cI ((f_X4_fails (M_fault' M (0 : Int32)) (2 : Int32)).2)) (wM_setA _) (wM_fst _) 0 4 rfl rfl rfl rfl hl.1 rfl (Nat.le_of_ble_eq_true rfl) dX4_copy_66 ⟨Nat.zero_le _, Nat.zero_le _⟩ (fun H locs hP hD hS => ?_)
            have hD : va_D A (wM ad cI ((f_X4_fails (M_fault' M (0 : Int32)) (2 : Int32)).2)) := hD
            have hF : f_X4_copy M x1 x2 x3 x4 x5 = ((f_X4_fails (M_fault' M (0 : Int32)) (2 : Int32)).1, (f_X4_fails (M_fault' M (0 : Int32)) (2 : Int32)).2) := by rw [f_X4_copy, if_neg c_9, if_neg c_16, if_neg c_29, if_neg c_40, if_neg c_61]
            rw [hF]
            exact kr_i B hP hS rfl rfl dX4_copy_69
        · refine lv_aload_n hx hb dX4_copy_43 rfl (lv_at hl 0 rfl) ?_
          refine lv_iconst (v := (1 : Int32)) hx hb dX4_copy_44 (by decide) ?_
          refine kc_V (As := [.int (1 : Int32)]) (rest := []) B (c_X4_fails l D cI cO tF ad (M_fault' M (0 : Int32)) (1 : Int32) ) (cwV 1 hts gX4_copy_X4_fails rfl rfl rfl (by decide +kernel) ⟨Nat.le_of_ble_eq_true rfl, Nat.le_of_ble_eq_true rfl⟩) hP hD hS [0, 1, 2, 3, 4, 5, 6, 7, 8, 9, 10, 11, 12] wM_subA (by decide) (w' := wM ad cI ((f_X4_fails (M_fault' M (0 : Int32)) (1 : Int32)).2)) (wM_setA _) (wM_fst _) 0 4 rfl rfl rfl rfl hl.1 rfl (Nat.le_of_ble_eq_true rfl) dX4_copy_45 ⟨Nat.zero_le _, Nat.zero_le _⟩ (fun H locs hP hD hS => ?_)
          have hD : va_D A (wM ad cI ((f_X4_fails (M_fault' M (0 : Int32)) (1 : Int32)).2)) := hD
          have hF : f_X4_copy M x1 x2 x3 x4 x5 = ((f_X4_fails (M_fault' M (0 : Int32)) (1 : Int32)).1, (f_X4_fails (M_fault' M (0 : Int32)) (1 : Int32)).2) := by rw [f_X4_copy, if_neg c_9, if_neg c_16, if_neg c_29, if_pos c_40]
          rw [hF]
          exact kr_i B hP hS rfl rfl dX4_copy_48
    · refine lv_iconst (v := (-1 : Int32)) hx hb dX4_copy_19 (by decide) ?_
      have hF : f_X4_copy M x1 x2 x3 x4 x5 = ((-1 : Int32), (M_fault' M (0 : Int32))) := by rw [f_X4_copy, if_neg c_9, if_pos c_16]
      rw [hF]
      exact kr_i B hP hS rfl rfl dX4_copy_20
