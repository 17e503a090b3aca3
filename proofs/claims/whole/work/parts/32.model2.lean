def f_X4_ofPerson (M : MS) (x1 : Int32) (x2 : Int32) : Int32 := (if (f_X4_isPerson M x1) = 0 then (-1 : Int32) else (if x2 = (0 : Int32) then ((M_kind M) x1.toNatClampNeg) else (if x2 = (1 : Int32) then ((M_parts M) x1.toNatClampNeg) else (if x2 = (2 : Int32) then ((M_thick M) x1.toNatClampNeg) else (if x2 = (3 : Int32) then (((M_isIn M) >>> (x1 &&& 31)) &&& (1 : Int32)) else (if x2 = (4 : Int32) then (f_X4_saysBy M x1 ((M_parts M) x1.toNatClampNeg)) else (-2 : Int32)))))))
theorem iw_X4_ofPerson_4 : ∀ w ∈ wsX40, w ∈ wsX4_ofPerson := fun _ h => List.mem_cons_of_mem _ (List.mem_append_right _ h)
set_option maxHeartbeats 4000000 in
set_option maxRecDepth 100000 in
theorem c_X4_ofPerson (l : Launch) (D : va_G) (cI cO : ClassId) (tF : Nat) (ad : Nat → Nat) (M : MS) (x1 : Int32) (x2 : Int32) (hn : (M_people M).toInt ≤ 6) (ht : ∀ i : Nat, (i : Int) < (M_people M).toInt → ¬ M_thick M i = 0) : Ct l yX4_ofPerson wsX4_ofPerson ({ frames := 1, cells := 0, slots := 0, locals := 23 }) D cI cO tF [.ref (ad 0), .int x1, .int x2] (wM ad cI M) (some (.int (f_X4_ofPerson M x1 x2))) (wM ad cI M) := by
  refine Ct.of (cc := cX4_ofPerson) (maxL := 3) (ret := (some .int)) (own := RX4) (by decide) rfl rfl (Nat.le_of_ble_eq_true rfl) ?_
  intro p e s m args below meth c A ls B hP hD hS hl
  obtain ⟨hx, hb, hret, hml, hts, hown, hlocks, hE, hA⟩ := id B
  have hK := hE.1
  have hl : lv_has ls 3 [(0, .ref (ad 0)), (1, .int x1), (2, .int x2)] := hl
  refine lv_aload_n hx hb dX4_ofPerson_0 rfl (lv_at hl 0 rfl) ?_
  refine lv_iload_n hx hb dX4_ofPerson_1 rfl (lv_at hl 1 rfl) ?_
  refine kc_V (As := [.int x1]) (rest := []) B (c_X4_isPerson l D cI cO tF ad M x1 ) (cwV 1 hts gX4_ofPerson_X4_isPerson rfl rfl rfl (by decide +kernel) ⟨Nat.le_of_ble_eq_true rfl, Nat.le_of_ble_eq_true rfl⟩) hP hD hS [0, 1, 2, 3, 4, 5, 6, 7, 8, 9, 10, 11, 12] wM_subA (by decide) (w' := wM ad cI M) (wM_setA _) (wM_fst _) 0 4 rfl rfl rfl rfl hl.1 rfl (Nat.le_of_ble_eq_true rfl) dX4_ofPerson_2 ⟨Nat.zero_le _, Nat.zero_le _⟩ (fun H locs hP hD hS => ?_)
  have hD : va_D A (wM ad cI M) := hD
  refine lv_if_ne (tgt := 10) hx hb dX4_ofPerson_5 (by decide) (fun c_5 => ?_) (fun c_5 => ?_)
  · refine lv_iload_n hx hb dX4_ofPerson_10 rfl (lv_at hl 2 rfl) ?_
    by_cases c_11_0 : x2 = (0 : Int32)
    · refine lv_tableIn (off := 33) (tgt := 44) hx hb dX4_ofPerson_11 (by rw [c_11_0]; decide) (by rw [c_11_0]; decide) (by rw [c_11_0]; rfl) (by decide) ?_
      refine lv_aload_n hx hb dX4_ofPerson_44 rfl (lv_at hl 0 rfl) ?_
      refine va_get (D := D) (ci := 4) (v := .ref (ad 4)) (C := RX4) (T := TX4) (N := 24) hx hb hts iw_X4_ofPerson_4 hown hK hP 0 rfl rfl 9 (by decide) (hts (.fieldLink RX4 19 "TownLispModel" "kind" "[I") (by decide +kernel)) (fun _ h9 => h9) rfl dX4_ofPerson_45 ?_
      refine lv_iload_n hx hb dX4_ofPerson_48 rfl (lv_at hl 1 rfl) ?_
      refine va_iald hx hb hK hP 4 0 rfl rfl (mi_in hn c_5) dX4_ofPerson_49 ?_
      have hF : f_X4_ofPerson M x1 x2 = ((M_kind M) x1.toNatClampNeg) := by rw [f_X4_ofPerson, if_neg c_5, if_pos c_11_0]
      rw [hF]
      exact kr_i B hP hS rfl rfl dX4_ofPerson_50
    by_cases c_11_1 : x2 = (1 : Int32)
    · refine lv_tableIn (off := 40) (tgt := 51) hx hb dX4_ofPerson_11 (by rw [c_11_1]; decide) (by rw [c_11_1]; decide) (by rw [c_11_1]; rfl) (by decide) ?_
      refine lv_aload_n hx hb dX4_ofPerson_51 rfl (lv_at hl 0 rfl) ?_
      refine va_get (D := D) (ci := 4) (v := .ref (ad 5)) (C := RX4) (T := TX4) (N := 24) hx hb hts iw_X4_ofPerson_4 hown hK hP 0 rfl rfl 10 (by decide) (hts (.fieldLink RX4 22 "TownLispModel" "parts" "[I") (by decide +kernel)) (fun _ h9 => h9) rfl dX4_ofPerson_52 ?_
      refine lv_iload_n hx hb dX4_ofPerson_55 rfl (lv_at hl 1 rfl) ?_
      refine va_iald hx hb hK hP 5 0 rfl rfl (mi_in hn c_5) dX4_ofPerson_56 ?_
      have hF : f_X4_ofPerson M x1 x2 = ((M_parts M) x1.toNatClampNeg) := by rw [f_X4_ofPerson, if_neg c_5, if_neg c_11_0, if_pos c_11_1]
      rw [hF]
      exact kr_i B hP hS rfl rfl dX4_ofPerson_57
    by_cases c_11_2 : x2 = (2 : Int32)
    · refine lv_tableIn (off := 47) (tgt := 58) hx hb dX4_ofPerson_11 (by rw [c_11_2]; decide) (by rw [c_11_2]; decide) (by rw [c_11_2]; rfl) (by decide) ?_
      refine lv_aload_n hx hb dX4_ofPerson_58 rfl (lv_at hl 0 rfl) ?_
      refine va_get (D := D) (ci := 4) (v := .ref (ad 6)) (C := RX4) (T := TX4) (N := 24) hx hb hts iw_X4_ofPerson_4 hown hK hP 0 rfl rfl 11 (by decide) (hts (.fieldLink RX4 25 "TownLispModel" "thick" "[I") (by decide +kernel)) (fun _ h9 => h9) rfl dX4_ofPerson_59 ?_
      refine lv_iload_n hx hb dX4_ofPerson_62 rfl (lv_at hl 1 rfl) ?_
      refine va_iald hx hb hK hP 6 0 rfl rfl (mi_in hn c_5) dX4_ofPerson_63 ?_
      have hF : f_X4_ofPerson M x1 x2 = ((M_thick M) x1.toNatClampNeg) := by rw [f_X4_ofPerson, if_neg c_5, if_neg c_11_0, if_neg c_11_1, if_pos c_11_2]
      rw [hF]
      exact kr_i B hP hS rfl rfl dX4_ofPerson_64
    by_cases c_11_3 : x2 = (3 : Int32)
    · refine lv_tableIn (off := 54) (tgt := 65) hx hb dX4_ofPerson_11 (by rw [c_11_3]; decide) (by rw [c_11_3]; decide) (by rw [c_11_3]; rfl) (by decide) ?_
      refine lv_aload_n hx hb dX4_ofPerson_65 rfl (lv_at hl 0 rfl) ?_
      refine va_get (D := D) (ci := 4) (v := .int (M_isIn M)) (C := RX4) (T := TX4) (N := 24) hx hb hts iw_X4_ofPerson_4 hown hK hP 0 rfl rfl 7 (by decide) (hts (.fieldLink RX4 96 "TownLispModel" "isIn" "I") (by decide +kernel)) (fun _ h9 => h9) rfl dX4_ofPerson_66 ?_
      refine lv_iload_n hx hb dX4_ofPerson_69 rfl (lv_at hl 1 rfl) ?_
      refine lv_ishr hx hb dX4_ofPerson_70 ?_
      refine lv_iconst (v := (1 : Int32)) hx hb dX4_ofPerson_71 (by decide) ?_
      refine lv_iand hx hb dX4_ofPerson_72 ?_
      have hF : f_X4_ofPerson M x1 x2 = (((M_isIn M) >>> (x1 &&& 31)) &&& (1 : Int32)) := by rw [f_X4_ofPerson, if_neg c_5, if_neg c_11_0, if_neg c_11_1, if_neg c_11_2, if_pos c_11_3]
      rw [hF]
      exact kr_i B hP hS rfl rfl dX4_ofPerson_73
    by_cases c_11_4 : x2 = (4 : Int32)
    · refine lv_tableIn (off := 63) (tgt := 74) hx hb dX4_ofPerson_11 (by rw [c_11_4]; decide) (by rw [c_11_4]; decide) (by rw [c_11_4]; rfl) (by decide) ?_
      refine lv_aload_n hx hb dX4_ofPerson_74 rfl (lv_at hl 0 rfl) ?_
      refine lv_iload_n hx hb dX4_ofPerson_75 rfl (lv_at hl 1 rfl) ?_
      refine lv_aload_n hx hb dX4_ofPerson_76 rfl (lv_at hl 0 rfl) ?_
      refine va_get (D := D) (ci := 4) (v := .ref (ad 5)) (C := RX4) (T := TX4) (N := 24) hx hb hts iw_X4_ofPerson_4 hown hK hP 0 rfl rfl 10 (by decide) (hts (.fieldLink RX4 22 "TownLispModel" "parts" "[I") (by decide +kernel)) (fun _ h9 => h9) rfl dX4_ofPerson_77 ?_
      refine lv_iload_n hx hb dX4_ofPerson_80 rfl (lv_at hl 1 rfl) ?_
      refine va_iald hx hb hK hP 5 0 rfl rfl (mi_in hn c_5) dX4_ofPerson_81 ?_
      refine kc_V (As := [.int x1, .int ((M_parts M) x1.toNatClampNeg)]) (rest := []) B (c_X4_saysBy l D cI cO tF ad M x1 ((M_parts M) x1.toNatClampNeg) (mi_in hn c_5) (ht _ (q_cl (mi_r c_5)))) (cwV 2 hts gX4_ofPerson_X4_saysBy rfl rfl rfl (by decide +kernel) ⟨Nat.le_of_ble_eq_true rfl, Nat.le_of_ble_eq_true rfl⟩) hP hD hS [0, 1, 2, 3, 4, 5, 6, 7, 8, 9, 10, 11, 12] wM_subA (by decide) (w' := wM ad cI M) (wM_setA _) (wM_fst _) 0 4 rfl rfl rfl rfl hl.1 rfl (Nat.le_of_ble_eq_true rfl) dX4_ofPerson_82 ⟨Nat.zero_le _, Nat.zero_le _⟩ (fun H locs hP hD hS => ?_)
      have hD : va_D A (wM ad cI M) := hD
      have hF : f_X4_ofPerson M x1 x2 = (f_X4_saysBy M x1 ((M_parts M) x1.toNatClampNeg)) := by rw [f_X4_ofPerson, if_neg c_5, if_neg c_11_0, if_neg c_11_1, if_neg c_11_2, if_neg c_11_3, if_pos c_11_4]
      rw [hF]
      exact kr_i B hP hS rfl rfl dX4_ofPerson_85
    refine lv_tableOut (tgt := 86) hx hb dX4_ofPerson_11 (sw_out5 c_11_0 c_11_1 c_11_2 c_11_3 c_11_4) (by decide) ?_
    refine lv_bipush (v := (-2 : Int32)) hx hb dX4_ofPerson_86 (by decide) ?_
    have hF : f_X4_ofPerson M x1 x2 = (-2 : Int32) := by rw [f_X4_ofPerson, if_neg c_5, if_neg c_11_0, if_neg c_11_1, if_neg c_11_2, if_neg c_11_3, if_neg c_11_4]
    rw [hF]
    exact kr_i B hP hS rfl rfl dX4_ofPerson_88
  · refine lv_iconst (v := (-1 : Int32)) hx hb dX4_ofPerson_8 (by decide) ?_
    have hF : f_X4_ofPerson M x1 x2 = (-1 : Int32) := by rw [f_X4_ofPerson, if_pos c_5]
    rw [hF]
    exact kr_i B hP hS rfl rfl dX4_ofPerson_9
def f_X4_tune (M : MS) (x1 : Int32) (x2 : Int32) : Int32 × MS := (if (f_X4_isPerson M x1) = 0 then ((-1 : Int32), M) else (if (f_X4_within x2 (1 : Int32) (9 : Int32)) = 0 then ((-2 : Int32), M) else (((M_thick M) x1.toNatClampNeg), (M_thick' M (upd (M_thick M) x1.toNatClampNeg x2)))))
theorem iw_X4_tune_4 : ∀ w ∈ wsX40, w ∈ wsX4_tune := fun _ h => List.mem_cons_of_mem _ (List.mem_append_right _ h)
set_option maxHeartbeats 4000000 in
set_option maxRecDepth 100000 in
theorem c_X4_tune (l : Launch) (D : va_G) (cI cO : ClassId) (tF : Nat) (ad : Nat → Nat) (M : MS) (x1 : Int32) (x2 : Int32) (hn : (M_people M).toInt ≤ 6) : Ct l yX4_tune wsX4_tune ({ frames := 1, cells := 0, slots := 0, locals := 22 }) D cI cO tF [.ref (ad 0), .int x1, .int x2] (wM ad cI M) (some (.int ((f_X4_tune M x1 x2).1))) (wM ad cI ((f_X4_tune M x1 x2).2)) := by
  refine Ct.of (cc := cX4_tune) (maxL := 4) (ret := (some .int)) (own := RX4) (by decide) rfl rfl (Nat.le_of_ble_eq_true rfl) ?_
  intro p e s m args below meth c A ls B hP hD hS hl
  obtain ⟨hx, hb, hret, hml, hts, hown, hlocks, hE, hA⟩ := id B
  have hK := hE.1
  have hl : lv_has ls 4 [(0, .ref (ad 0)), (1, .int x1), (2, .int x2)] := hl
  refine lv_aload_n hx hb dX4_tune_0 rfl (lv_at hl 0 rfl) ?_
  refine lv_iload_n hx hb dX4_tune_1 rfl (lv_at hl 1 rfl) ?_
  refine kc_V (As := [.int x1]) (rest := []) B (c_X4_isPerson l D cI cO tF ad M x1 ) (cwV 1 hts gX4_tune_X4_isPerson rfl rfl rfl (by decide +kernel) ⟨Nat.le_of_ble_eq_true rfl, Nat.le_of_ble_eq_true rfl⟩) hP hD hS [0, 1, 2, 3, 4, 5, 6, 7, 8, 9, 10, 11, 12] wM_subA (by decide) (w' := wM ad cI M) (wM_setA _) (wM_fst _) 0 4 rfl rfl rfl rfl hl.1 rfl (Nat.le_of_ble_eq_true rfl) dX4_tune_2 ⟨Nat.zero_le _, Nat.zero_le _⟩ (fun H locs hP hD hS => ?_)
  have hD : va_D A (wM ad cI M) := hD
  refine lv_if_ne (tgt := 10) hx hb dX4_tune_5 (by decide) (fun c_5 => ?_) (fun c_5 => ?_)
  · refine lv_iload_n hx hb dX4_tune_10 rfl (lv_at hl 2 rfl) ?_
    refine lv_iconst (v := (1 : Int32)) hx hb dX4_tune_11 (by decide) ?_
    refine lv_bipush (v := (9 : Int32)) hx hb dX4_tune_12 (by decide) ?_
    refine kc_S (As := [.int x2, .int (1 : Int32), .int (9 : Int32)]) (rest := []) B (c_X4_within l D cI cO tF x2 (1 : Int32) (9 : Int32) ) (va_cwS 3 hts gX4_tune_X4_within rfl rfl rfl (by decide +kernel) ⟨Nat.le_of_ble_eq_true rfl, Nat.le_of_ble_eq_true rfl⟩) hP hD hS [] rfl (by decide) (w' := wM ad cI M) rfl rfl rfl hl.1 rfl (Nat.le_of_ble_eq_true rfl) dX4_tune_14 ⟨Nat.zero_le _, Nat.zero_le _⟩ (fun H locs hP hD hS => ?_)
    have hD : va_D A (wM ad cI M) := hD
    refine lv_if_ne (tgt := 23) hx hb dX4_tune_17 (by decide) (fun c_17 => ?_) (fun c_17 => ?_)
    · refine lv_aload_n hx hb dX4_tune_23 rfl (lv_at hl 0 rfl) ?_
      refine va_get (D := D) (ci := 4) (v := .ref (ad 6)) (C := RX4) (T := TX4) (N := 24) hx hb hts iw_X4_tune_4 hown hK hP 0 rfl rfl 11 (by decide) (hts (.fieldLink RX4 25 "TownLispModel" "thick" "[I") (by decide +kernel)) (fun _ h9 => h9) rfl dX4_tune_24 ?_
      refine lv_iload_n hx hb dX4_tune_27 rfl (lv_at hl 1 rfl) ?_
      refine va_iald hx hb hK hP 6 0 rfl rfl (mi_in hn c_5) dX4_tune_28 ?_
      refine lv_istore_n (lv' := [(3, .int ((M_thick M) x1.toNatClampNeg)), (0, .ref (ad 0)), (1, .int x1), (2, .int x2)]) hx hb dX4_tune_29 rfl hl (by decide) rfl (fun ls hl => ?_)
      refine lv_aload_n hx hb dX4_tune_30 rfl (lv_at hl 1 rfl) ?_
      refine va_get (D := D) (ci := 4) (v := .ref (ad 6)) (C := RX4) (T := TX4) (N := 24) hx hb hts iw_X4_tune_4 hown hK hP 0 rfl rfl 11 (by decide) (hts (.fieldLink RX4 25 "TownLispModel" "thick" "[I") (by decide +kernel)) (fun _ h9 => h9) rfl dX4_tune_31 ?_
      refine lv_iload_n hx hb dX4_tune_34 rfl (lv_at hl 2 rfl) ?_
      refine lv_iload_n hx hb dX4_tune_35 rfl (lv_at hl 3 rfl) ?_
      refine va_iast hx hb hK hP hD hS 6 0 rfl rfl (mi_in hn c_5) dX4_tune_36 (fun H locs hP hD hS => ?_)
      have hP : va_P D vwCl (wM ad cI (M_thick' M (upd (M_thick M) x1.toNatClampNeg x2))) H := hP
      have hD : va_D A (wM ad cI (M_thick' M (upd (M_thick M) x1.toNatClampNeg x2))) := hD
      refine lv_iload_n hx hb dX4_tune_37 rfl (lv_at hl 0 rfl) ?_
      have hF : f_X4_tune M x1 x2 = (((M_thick M) x1.toNatClampNeg), (M_thick' M (upd (M_thick M) x1.toNatClampNeg x2))) := by rw [f_X4_tune, if_neg c_5, if_neg c_17]
      rw [hF]
      exact kr_i B hP hS rfl rfl dX4_tune_38
    · refine lv_bipush (v := (-2 : Int32)) hx hb dX4_tune_20 (by decide) ?_
      have hF : f_X4_tune M x1 x2 = ((-2 : Int32), M) := by rw [f_X4_tune, if_neg c_5, if_pos c_17]
      rw [hF]
      exact kr_i B hP hS rfl rfl dX4_tune_22
  · refine lv_iconst (v := (-1 : Int32)) hx hb dX4_tune_8 (by decide) ?_
    have hF : f_X4_tune M x1 x2 = ((-1 : Int32), M) := by rw [f_X4_tune, if_pos c_5]
    rw [hF]
    exact kr_i B hP hS rfl rfl dX4_tune_9
def fL_X4_saidNow_4 (M : MS) : Nat → Int32 → Int32 → Int32
  | 0, _, _ => 0
  | k + 1, x1, x2 => (if (M_people M) ≤ x2 then x1 else (if (f_X4_isOf (M_isIn M) x2) = 0 then fL_X4_saidNow_4 M k (x1 + (0 : Int32)) (x2 + (1 : Int32)) else fL_X4_saidNow_4 M k (x1 + (f_X4_saysBy M x2 ((M_parts M) x2.toNatClampNeg))) (x2 + (1 : Int32))))
def f_X4_saidNow (M : MS) : Int32 := fL_X4_saidNow_4 M 7 (0 : Int32) (0 : Int32)
theorem iw_X4_saidNow_4 : ∀ w ∈ wsX40, w ∈ wsX4_saidNow := fun _ h => List.mem_cons_of_mem _ (List.mem_append_right _ h)
set_option maxHeartbeats 4000000 in
set_option maxRecDepth 100000 in
theorem L_X4_saidNow_4 {p : Program} (l : Launch) {e : Env} {s : State} {m : MethodId} {args : Array Value} {below : List Frame} {meth : Method} {c : Code} {A : Nat → Prop} (D : va_G) (cI cO : ClassId) (tF : Nat) (ad : Nat → Nat) (M : MS) (hn : (M_people M).toInt ≤ 6) (ht : ∀ i : Nat, (i : Int) < (M_people M).toInt → ¬ M_thick M i = 0) (B : Bx p s m args meth c cX4_saidNow 3 (some .int) wsX4_saidNow RX4 D cI cO tF A) : ∀ (k : Nat) (x1 : Int32) (x2 : Int32), (0 ≤ x2.toInt) → (((M_people M).toInt - x2.toInt).toNat < k) → ∀ (H : Heap) (locs : List Loc), va_P D vwCl (wM ad cI M) H → va_D A (wM ad cI M) → va_S A s.heap H locs → ∀ ls : Array Slot, lv_has ls 3 [(0, .ref (ad 0)), (1, .int x1), (2, .int x2)] → W p l e ({ frames := 1, cells := 0, slots := 0, locals := 23 }) s m args below meth c H locs 0 0 (MQ below (Qp D (some (.int (fL_X4_saidNow_4 M k x1 x2))) (wM ad cI M) A) args s 0 0 A) (F0 m 4 ls []) := by
  obtain ⟨hx, hb, hret, hml, hts, hown, hlocks, hE, hA⟩ := id B
  have hK := hE.1
  intro k
  induction k with
  | zero =>
    intro x1 x2 h0 hk
    exact absurd hk (Nat.not_lt_zero _)
  | succ k ih =>
    intro x1 x2 h0 hk H locs hP hD hS ls hl
    refine lv_iload_n hx hb dX4_saidNow_4 rfl (lv_at hl 2 rfl) ?_
    refine lv_aload_n hx hb dX4_saidNow_5 rfl (lv_at hl 0 rfl) ?_
    refine va_get (D := D) (ci := 4) (v := .int (M_people M)) (C := RX4) (T := TX4) (N := 24) hx hb hts iw_X4_saidNow_4 hown hK hP 0 rfl rfl 5 (by decide) (hts (.fieldLink RX4 56 "TownLispModel" "people" "I") (by decide +kernel)) (fun _ h9 => h9) rfl dX4_saidNow_6 ?_
    refine lv_icmp_ge (tgt := 47) hx hb dX4_saidNow_9 (by decide) (fun c_9 => ?_) (fun c_9 => ?_)
    · refine lv_iload_n hx hb dX4_saidNow_47 rfl (lv_at hl 1 rfl) ?_
      have hF : fL_X4_saidNow_4 M (k + 1) x1 x2 = x1 := by rw [fL_X4_saidNow_4, if_pos c_9]
      rw [hF]
      exact kr_i B hP hS rfl rfl dX4_saidNow_48
    · refine lv_iload_n hx hb dX4_saidNow_12 rfl (lv_at hl 1 rfl) ?_
      refine lv_aload_n hx hb dX4_saidNow_13 rfl (lv_at hl 0 rfl) ?_
      refine va_get (D := D) (ci := 4) (v := .int (M_isIn M)) (C := RX4) (T := TX4) (N := 24) hx hb hts iw_X4_saidNow_4 hown hK hP 0 rfl rfl 7 (by decide) (hts (.fieldLink RX4 96 "TownLispModel" "isIn" "I") (by decide +kernel)) (fun _ h9 => h9) rfl dX4_saidNow_14 ?_
      refine lv_iload_n hx hb dX4_saidNow_17 rfl (lv_at hl 2 rfl) ?_
      refine kc_S (As := [.int (M_isIn M), .int x2]) (rest := [.int x1]) B (c_X4_isOf l D cI cO tF (M_isIn M) x2 ) (va_cwS 2 hts gX4_saidNow_X4_isOf rfl rfl rfl (by decide +kernel) ⟨Nat.le_of_ble_eq_true rfl, Nat.le_of_ble_eq_true rfl⟩) hP hD hS [] rfl (by decide) (w' := wM ad cI M) rfl rfl rfl hl.1 rfl (Nat.le_of_ble_eq_true rfl) dX4_saidNow_18 ⟨Nat.zero_le _, Nat.zero_le _⟩ (fun H locs hP hD hS => ?_)
      have hD : va_D A (wM ad cI M) := hD
      refine lv_if_eq (tgt := 38) hx hb dX4_saidNow_21 (by decide) (fun c_21 => ?_) (fun c_21 => ?_)
      · refine lv_iconst (v := (0 : Int32)) hx hb dX4_saidNow_38 (by decide) ?_
        refine lv_iadd hx hb dX4_saidNow_39 ?_
        refine lv_istore_n (lv' := [(1, .int (x1 + (0 : Int32))), (0, .ref (ad 0)), (2, .int x2)]) hx hb dX4_saidNow_40 rfl hl (by decide) rfl (fun ls hl => ?_)
        refine lv_iinc (v := (x2 + (1 : Int32))) (lv' := [(2, .int (x2 + (1 : Int32))), (1, .int (x1 + (0 : Int32))), (0, .ref (ad 0))]) hx hb dX4_saidNow_41 hl (k := 2) rfl rfl (by decide) rfl (fun ls hl => ?_)
        refine lv_goto (tgt := 4) hx hb dX4_saidNow_44 (by decide) ?_
        have hF : fL_X4_saidNow_4 M (k + 1) x1 x2 = fL_X4_saidNow_4 M k (x1 + (0 : Int32)) (x2 + (1 : Int32)) := by rw [fL_X4_saidNow_4, if_neg c_9, if_pos c_21]
        rw [hF]
        exact ih (x1 + (0 : Int32)) (x2 + (1 : Int32)) (lp_pre h0 c_9) (lp_mu h0 c_9 hk) _ _ hP hD hS ls (lv_sub hl [2, 1, 0] rfl)
      · refine lv_aload_n hx hb dX4_saidNow_24 rfl (lv_at hl 0 rfl) ?_
        refine lv_iload_n hx hb dX4_saidNow_25 rfl (lv_at hl 2 rfl) ?_
        refine lv_aload_n hx hb dX4_saidNow_26 rfl (lv_at hl 0 rfl) ?_
        refine va_get (D := D) (ci := 4) (v := .ref (ad 5)) (C := RX4) (T := TX4) (N := 24) hx hb hts iw_X4_saidNow_4 hown hK hP 0 rfl rfl 10 (by decide) (hts (.fieldLink RX4 22 "TownLispModel" "parts" "[I") (by decide +kernel)) (fun _ h9 => h9) rfl dX4_saidNow_27 ?_
        refine lv_iload_n hx hb dX4_saidNow_30 rfl (lv_at hl 2 rfl) ?_
        refine va_iald hx hb hK hP 5 0 rfl rfl (lp_in h0 hn c_9) dX4_saidNow_31 ?_
        refine kc_V (As := [.int x2, .int ((M_parts M) x2.toNatClampNeg)]) (rest := [.int x1]) B (c_X4_saysBy l D cI cO tF ad M x2 ((M_parts M) x2.toNatClampNeg) (lp_in h0 hn c_9) (ht _ (cl_lt h0 c_9))) (cwV 2 hts gX4_saidNow_X4_saysBy rfl rfl rfl (by decide +kernel) ⟨Nat.le_of_ble_eq_true rfl, Nat.le_of_ble_eq_true rfl⟩) hP hD hS [0, 1, 2, 3, 4, 5, 6, 7, 8, 9, 10, 11, 12] wM_subA (by decide) (w' := wM ad cI M) (wM_setA _) (wM_fst _) 0 4 rfl rfl rfl rfl hl.1 rfl (Nat.le_of_ble_eq_true rfl) dX4_saidNow_32 ⟨Nat.zero_le _, Nat.zero_le _⟩ (fun H locs hP hD hS => ?_)
        have hD : va_D A (wM ad cI M) := hD
        refine lv_goto (tgt := 39) hx hb dX4_saidNow_35 (by decide) ?_
        refine lv_iadd hx hb dX4_saidNow_39 ?_
        refine lv_istore_n (lv' := [(1, .int (x1 + (f_X4_saysBy M x2 ((M_parts M) x2.toNatClampNeg)))), (0, .ref (ad 0)), (2, .int x2)]) hx hb dX4_saidNow_40 rfl hl (by decide) rfl (fun ls hl => ?_)
        refine lv_iinc (v := (x2 + (1 : Int32))) (lv' := [(2, .int (x2 + (1 : Int32))), (1, .int (x1 + (f_X4_saysBy M x2 ((M_parts M) x2.toNatClampNeg)))), (0, .ref (ad 0))]) hx hb dX4_saidNow_41 hl (k := 2) rfl rfl (by decide) rfl (fun ls hl => ?_)
        refine lv_goto (tgt := 4) hx hb dX4_saidNow_44 (by decide) ?_
        have hF : fL_X4_saidNow_4 M (k + 1) x1 x2 = fL_X4_saidNow_4 M k (x1 + (f_X4_saysBy M x2 ((M_parts M) x2.toNatClampNeg))) (x2 + (1 : Int32)) := by rw [fL_X4_saidNow_4, if_neg c_9, if_neg c_21]
        rw [hF]
        exact ih (x1 + (f_X4_saysBy M x2 ((M_parts M) x2.toNatClampNeg))) (x2 + (1 : Int32)) (lp_pre h0 c_9) (lp_mu h0 c_9 hk) _ _ hP hD hS ls (lv_sub hl [2, 1, 0] rfl)
set_option maxHeartbeats 4000000 in
set_option maxRecDepth 100000 in
theorem c_X4_saidNow (l : Launch) (D : va_G) (cI cO : ClassId) (tF : Nat) (ad : Nat → Nat) (M : MS) (hn : (M_people M).toInt ≤ 6) (ht : ∀ i : Nat, (i : Int) < (M_people M).toInt → ¬ M_thick M i = 0) : Ct l yX4_saidNow wsX4_saidNow ({ frames := 1, cells := 0, slots := 0, locals := 23 }) D cI cO tF [.ref (ad 0)] (wM ad cI M) (some (.int (f_X4_saidNow M))) (wM ad cI M) := by
  refine Ct.of (cc := cX4_saidNow) (maxL := 3) (ret := (some .int)) (own := RX4) (by decide) rfl rfl (Nat.le_of_ble_eq_true rfl) ?_
  intro p e s m args below meth c A ls B hP hD hS hl
  obtain ⟨hx, hb, hret, hml, hts, hown, hlocks, hE, hA⟩ := id B
  have hK := hE.1
  have hl : lv_has ls 3 [(0, .ref (ad 0))] := hl
  refine lv_iconst (v := (0 : Int32)) hx hb dX4_saidNow_0 (by decide) ?_
  refine lv_istore_n (lv' := [(1, .int (0 : Int32)), (0, .ref (ad 0))]) hx hb dX4_saidNow_1 rfl hl (by decide) rfl (fun ls hl => ?_)
  refine lv_iconst (v := (0 : Int32)) hx hb dX4_saidNow_2 (by decide) ?_
  refine lv_istore_n (lv' := [(2, .int (0 : Int32)), (1, .int (0 : Int32)), (0, .ref (ad 0))]) hx hb dX4_saidNow_3 rfl hl (by decide) rfl (fun ls hl => ?_)
  have hF : f_X4_saidNow M = fL_X4_saidNow_4 M 7 (0 : Int32) (0 : Int32) := by rw [f_X4_saidNow]
  rw [hF]
  exact L_X4_saidNow_4 l D cI cO tF ad M  hn ht B  7 (0 : Int32) (0 : Int32) (Int.le_refl _) (by rw [show (0 : Int32).toInt = 0 from rfl]; omega) _ _ hP hD hS ls (lv_sub hl [2, 1, 0] rfl)
def f_X4_heard (M : MS) (x1 : Int32) : Int32 := (if (f_X4_within x1 (0 : Int32) (2 : Int32)) = 0 then (-2 : Int32) else (if (M_people M) = 0 then (-3 : Int32) else (if x1 = 0 then (f_X4_saidNow M) else (if x1 = (1 : Int32) then (M_isIn M) else (f_X4_partsOf M (M_isIn M))))))
theorem iw_X4_heard_4 : ∀ w ∈ wsX40, w ∈ wsX4_heard := fun _ h => List.mem_cons_of_mem _ (List.mem_append_right _ h)
set_option maxHeartbeats 4000000 in
set_option maxRecDepth 100000 in
theorem c_X4_heard (l : Launch) (D : va_G) (cI cO : ClassId) (tF : Nat) (ad : Nat → Nat) (M : MS) (x1 : Int32) (hn : (M_people M).toInt ≤ 6) (ht : ∀ i : Nat, (i : Int) < (M_people M).toInt → ¬ M_thick M i = 0) : Ct l yX4_heard wsX4_heard ({ frames := 2, cells := 0, slots := 0, locals := 45 }) D cI cO tF [.ref (ad 0), .int x1] (wM ad cI M) (some (.int (f_X4_heard M x1))) (wM ad cI M) := by
  refine Ct.of (cc := cX4_heard) (maxL := 2) (ret := (some .int)) (own := RX4) (by decide) rfl rfl (Nat.le_of_ble_eq_true rfl) ?_
  intro p e s m args below meth c A ls B hP hD hS hl
  obtain ⟨hx, hb, hret, hml, hts, hown, hlocks, hE, hA⟩ := id B
  have hK := hE.1
  have hl : lv_has ls 2 [(0, .ref (ad 0)), (1, .int x1)] := hl
  refine lv_iload_n hx hb dX4_heard_0 rfl (lv_at hl 1 rfl) ?_
  refine lv_iconst (v := (0 : Int32)) hx hb dX4_heard_1 (by decide) ?_
  refine lv_iconst (v := (2 : Int32)) hx hb dX4_heard_2 (by decide) ?_
  refine kc_S (As := [.int x1, .int (0 : Int32), .int (2 : Int32)]) (rest := []) B (c_X4_within l D cI cO tF x1 (0 : Int32) (2 : Int32) ) (va_cwS 3 hts gX4_heard_X4_within rfl rfl rfl (by decide +kernel) ⟨Nat.le_of_ble_eq_true rfl, Nat.le_of_ble_eq_true rfl⟩) hP hD hS [] rfl (by decide) (w' := wM ad cI M) rfl rfl rfl hl.1 rfl (Nat.le_of_ble_eq_true rfl) dX4_heard_3 ⟨Nat.zero_le _, Nat.zero_le _⟩ (fun H locs hP hD hS => ?_)
  have hD : va_D A (wM ad cI M) := hD
  refine lv_if_ne (tgt := 12) hx hb dX4_heard_6 (by decide) (fun c_6 => ?_) (fun c_6 => ?_)
  · refine lv_aload_n hx hb dX4_heard_12 rfl (lv_at hl 0 rfl) ?_
    refine va_get (D := D) (ci := 4) (v := .int (M_people M)) (C := RX4) (T := TX4) (N := 24) hx hb hts iw_X4_heard_4 hown hK hP 0 rfl rfl 5 (by decide) (hts (.fieldLink RX4 56 "TownLispModel" "people" "I") (by decide +kernel)) (fun _ h9 => h9) rfl dX4_heard_13 ?_
    refine lv_if_ne (tgt := 22) hx hb dX4_heard_16 (by decide) (fun c_16 => ?_) (fun c_16 => ?_)
    · refine lv_iload_n hx hb dX4_heard_22 rfl (lv_at hl 1 rfl) ?_
      refine lv_if_ne (tgt := 33) hx hb dX4_heard_23 (by decide) (fun c_23 => ?_) (fun c_23 => ?_)
      · refine lv_iload_n hx hb dX4_heard_33 rfl (lv_at hl 1 rfl) ?_
        refine lv_iconst (v := (1 : Int32)) hx hb dX4_heard_34 (by decide) ?_
        refine lv_icmp_ne (tgt := 45) hx hb dX4_heard_35 (by decide) (fun c_35 => ?_) (fun c_35 => ?_)
        · refine lv_aload_n hx hb dX4_heard_45 rfl (lv_at hl 0 rfl) ?_
          refine lv_aload_n hx hb dX4_heard_46 rfl (lv_at hl 0 rfl) ?_
          refine va_get (D := D) (ci := 4) (v := .int (M_isIn M)) (C := RX4) (T := TX4) (N := 24) hx hb hts iw_X4_heard_4 hown hK hP 0 rfl rfl 7 (by decide) (hts (.fieldLink RX4 96 "TownLispModel" "isIn" "I") (by decide +kernel)) (fun _ h9 => h9) rfl dX4_heard_47 ?_
          refine kc_V (As := [.int (M_isIn M)]) (rest := []) B (c_X4_partsOf l D cI cO tF ad M (M_isIn M) (hn)) (cwV 1 hts gX4_heard_X4_partsOf rfl rfl rfl (by decide +kernel) ⟨Nat.le_of_ble_eq_true rfl, Nat.le_of_ble_eq_true rfl⟩) hP hD hS [0, 1, 2, 3, 4, 5, 6, 7, 8, 9, 10, 11, 12] wM_subA (by decide) (w' := wM ad cI M) (wM_setA _) (wM_fst _) 0 4 rfl rfl rfl rfl hl.1 rfl (Nat.le_of_ble_eq_true rfl) dX4_heard_50 ⟨Nat.zero_le _, Nat.zero_le _⟩ (fun H locs hP hD hS => ?_)
          have hD : va_D A (wM ad cI M) := hD
          have hF : f_X4_heard M x1 = (f_X4_partsOf M (M_isIn M)) := by rw [f_X4_heard, if_neg c_6, if_neg c_16, if_neg c_23, if_neg c_35]
          rw [hF]
          exact kr_i B hP hS rfl rfl dX4_heard_53
        · refine lv_aload_n hx hb dX4_heard_38 rfl (lv_at hl 0 rfl) ?_
          refine va_get (D := D) (ci := 4) (v := .int (M_isIn M)) (C := RX4) (T := TX4) (N := 24) hx hb hts iw_X4_heard_4 hown hK hP 0 rfl rfl 7 (by decide) (hts (.fieldLink RX4 96 "TownLispModel" "isIn" "I") (by decide +kernel)) (fun _ h9 => h9) rfl dX4_heard_39 ?_
          refine lv_goto (tgt := 53) hx hb dX4_heard_42 (by decide) ?_
          have hF : f_X4_heard M x1 = (M_isIn M) := by rw [f_X4_heard, if_neg c_6, if_neg c_16, if_neg c_23, if_pos c_35]
          rw [hF]
          exact kr_i B hP hS rfl rfl dX4_heard_53
      · refine lv_aload_n hx hb dX4_heard_26 rfl (lv_at hl 0 rfl) ?_
        refine kc_V (As := []) (rest := []) B (c_X4_saidNow l D cI cO tF ad M (hn) (ht)) (cwV 0 hts gX4_heard_X4_saidNow rfl rfl rfl (by decide +kernel) ⟨Nat.le_of_ble_eq_true rfl, Nat.le_of_ble_eq_true rfl⟩) hP hD hS [0, 1, 2, 3, 4, 5, 6, 7, 8, 9, 10, 11, 12] wM_subA (by decide) (w' := wM ad cI M) (wM_setA _) (wM_fst _) 0 4 rfl rfl rfl rfl hl.1 rfl (Nat.le_of_ble_eq_true rfl) dX4_heard_27 ⟨Nat.zero_le _, Nat.zero_le _⟩ (fun H locs hP hD hS => ?_)
        have hD : va_D A (wM ad cI M) := hD
        refine lv_goto (tgt := 53) hx hb dX4_heard_30 (by decide) ?_
        have hF : f_X4_heard M x1 = (f_X4_saidNow M) := by rw [f_X4_heard, if_neg c_6, if_neg c_16, if_pos c_23]
        rw [hF]
        exact kr_i B hP hS rfl rfl dX4_heard_53
    · refine lv_bipush (v := (-3 : Int32)) hx hb dX4_heard_19 (by decide) ?_
      have hF : f_X4_heard M x1 = (-3 : Int32) := by rw [f_X4_heard, if_neg c_6, if_pos c_16]
      rw [hF]
      exact kr_i B hP hS rfl rfl dX4_heard_21
  · refine lv_bipush (v := (-2 : Int32)) hx hb dX4_heard_9 (by decide) ?_
    have hF : f_X4_heard M x1 = (-2 : Int32) := by rw [f_X4_heard, if_pos c_6]
    rw [hF]
    exact kr_i B hP hS rfl rfl dX4_heard_11
def fL_X4_shareOf_19 (M : MS) (x1 : Int32) (x2 : Int32) (x3 : Int32) (x4 : Int32) (x5 : Int32) : Nat → Int32 → Int32 → Int32
  | 0, _, _ => 0
  | k + 1, x6, x7 => (if x7 = x3 then (if (x4 - x4 / x5 * x5) ≤ x6 then ((x4 / x5) + (0 : Int32)) else ((x4 / x5) + (1 : Int32))) else (if (f_X4_isOf x1 x7) = 0 then (if (x7 + (1 : Int32)) = (M_people M) then fL_X4_shareOf_19 M x1 x2 x3 x4 x5 k (x6 + (0 : Int32)) (0 : Int32) else fL_X4_shareOf_19 M x1 x2 x3 x4 x5 k (x6 + (0 : Int32)) (x7 + (1 : Int32))) else (if (x7 + (1 : Int32)) = (M_people M) then fL_X4_shareOf_19 M x1 x2 x3 x4 x5 k (x6 + (1 : Int32)) (0 : Int32) else fL_X4_shareOf_19 M x1 x2 x3 x4 x5 k (x6 + (1 : Int32)) (x7 + (1 : Int32)))))
def f_X4_shareOf (M : MS) (x1 : Int32) (x2 : Int32) (x3 : Int32) : Int32 := fL_X4_shareOf_19 M x1 x2 x3 (f_X4_partsOf M x1) (f_X4_size x1) 7 (0 : Int32) x2
theorem iw_X4_shareOf_4 : ∀ w ∈ wsX40, w ∈ wsX4_shareOf := fun _ h => List.mem_cons_of_mem _ (List.mem_append_right _ h)
set_option maxHeartbeats 4000000 in
set_option maxRecDepth 100000 in
theorem L_X4_shareOf_19 {p : Program} (l : Launch) {e : Env} {s : State} {m : MethodId} {args : Array Value} {below : List Frame} {meth : Method} {c : Code} {A : Nat → Prop} (D : va_G) (cI cO : ClassId) (tF : Nat) (ad : Nat → Nat) (M : MS) (x1 : Int32) (x2 : Int32) (x3 : Int32) (x4 : Int32) (x5 : Int32) (hn : (M_people M).toInt ≤ 6) (hs : ¬ f_X4_size x1 = 0) (hp2 : 0 ≤ x2.toInt ∧ x2.toInt < (M_people M).toInt) (hp3 : 0 ≤ x3.toInt ∧ x3.toInt < (M_people M).toInt) (B : Bx p s m args meth c cX4_shareOf 8 (some .int) wsX4_shareOf RX4 D cI cO tF A) (hh : ¬ x5 = 0) : ∀ (k : Nat) (x6 : Int32) (x7 : Int32), (0 ≤ x7.toInt ∧ x7.toInt < (M_people M).toInt) → (cd x7 x3 (M_people M) < k) → ∀ (H : Heap) (locs : List Loc), va_P D vwCl (wM ad cI M) H → va_D A (wM ad cI M) → va_S A s.heap H locs → ∀ ls : Array Slot, lv_has ls 8 [(0, .ref (ad 0)), (1, .int x1), (2, .int x2), (3, .int x3), (4, .int x4), (5, .int x5), (6, .int x6), (7, .int x7)] → W p l e ({ frames := 2, cells := 0, slots := 0, locals := 44 }) s m args below meth c H locs 0 0 (MQ below (Qp D (some (.int (fL_X4_shareOf_19 M x1 x2 x3 x4 x5 k x6 x7))) (wM ad cI M) A) args s 0 0 A) (F0 m 19 ls []) := by
  obtain ⟨hx, hb, hret, hml, hts, hown, hlocks, hE, hA⟩ := id B
  have hK := hE.1
  intro k
  induction k with
  | zero =>
    intro x6 x7 hq hk
    exact absurd hk (Nat.not_lt_zero _)
  | succ k ih =>
    intro x6 x7 hq hk H locs hP hD hS ls hl
    refine lv_iload hx hb dX4_shareOf_19 (lv_at hl 7 rfl) ?_
    refine lv_iload_n hx hb dX4_shareOf_21 rfl (lv_at hl 3 rfl) ?_
    refine lv_icmp_eq (tgt := 68) hx hb dX4_shareOf_22 (by decide) (fun c_22 => ?_) (fun c_22 => ?_)
    · refine lv_iload hx hb dX4_shareOf_68 (lv_at hl 4 rfl) ?_
      refine lv_iload hx hb dX4_shareOf_70 (lv_at hl 5 rfl) ?_
      refine lv_idiv hx hb dX4_shareOf_72 (hh) ?_
      refine lv_iload hx hb dX4_shareOf_73 (lv_at hl 6 rfl) ?_
      refine lv_iload hx hb dX4_shareOf_75 (lv_at hl 4 rfl) ?_
      refine lv_iload hx hb dX4_shareOf_77 (lv_at hl 5 rfl) ?_
      refine lv_irem hx hb dX4_shareOf_79 (hh) ?_
      refine lv_icmp_ge (tgt := 87) hx hb dX4_shareOf_80 (by decide) (fun c_80 => ?_) (fun c_80 => ?_)
      · refine lv_iconst (v := (0 : Int32)) hx hb dX4_shareOf_87 (by decide) ?_
        refine lv_iadd hx hb dX4_shareOf_88 ?_
        have hF : fL_X4_shareOf_19 M x1 x2 x3 x4 x5 (k + 1) x6 x7 = ((x4 / x5) + (0 : Int32)) := by rw [fL_X4_shareOf_19, if_pos c_22, if_pos c_80]
        rw [hF]
        exact kr_i B hP hS rfl rfl dX4_shareOf_89
      · refine lv_iconst (v := (1 : Int32)) hx hb dX4_shareOf_83 (by decide) ?_
        refine lv_goto (tgt := 88) hx hb dX4_shareOf_84 (by decide) ?_
        refine lv_iadd hx hb dX4_shareOf_88 ?_
        have hF : fL_X4_shareOf_19 M x1 x2 x3 x4 x5 (k + 1) x6 x7 = ((x4 / x5) + (1 : Int32)) := by rw [fL_X4_shareOf_19, if_pos c_22, if_neg c_80]
        rw [hF]
        exact kr_i B hP hS rfl rfl dX4_shareOf_89
    · refine lv_iload hx hb dX4_shareOf_25 (lv_at hl 6 rfl) ?_
      refine lv_iload_n hx hb dX4_shareOf_27 rfl (lv_at hl 1 rfl) ?_
      refine lv_iload hx hb dX4_shareOf_28 (lv_at hl 7 rfl) ?_
      refine kc_S (As := [.int x1, .int x7]) (rest := [.int x6]) B (c_X4_isOf l D cI cO tF x1 x7 ) (va_cwS 2 hts gX4_shareOf_X4_isOf rfl rfl rfl (by decide +kernel) ⟨Nat.le_of_ble_eq_true rfl, Nat.le_of_ble_eq_true rfl⟩) hP hD hS [] rfl (by decide) (w' := wM ad cI M) rfl rfl rfl hl.1 rfl (Nat.le_of_ble_eq_true rfl) dX4_shareOf_30 ⟨Nat.zero_le _, Nat.zero_le _⟩ (fun H locs hP hD hS => ?_)
      have hD : va_D A (wM ad cI M) := hD
      refine lv_if_eq (tgt := 40) hx hb dX4_shareOf_33 (by decide) (fun c_33 => ?_) (fun c_33 => ?_)
      · refine lv_iconst (v := (0 : Int32)) hx hb dX4_shareOf_40 (by decide) ?_
        refine lv_iadd hx hb dX4_shareOf_41 ?_
        refine lv_istore (lv' := [(6, .int (x6 + (0 : Int32))), (0, .ref (ad 0)), (1, .int x1), (2, .int x2), (3, .int x3), (4, .int x4), (5, .int x5), (7, .int x7)]) hx hb dX4_shareOf_42 hl (by decide) rfl (fun ls hl => ?_)
        refine lv_iload hx hb dX4_shareOf_44 (lv_at hl 7 rfl) ?_
        refine lv_iconst (v := (1 : Int32)) hx hb dX4_shareOf_46 (by decide) ?_
        refine lv_iadd hx hb dX4_shareOf_47 ?_
        refine lv_aload_n hx hb dX4_shareOf_48 rfl (lv_at hl 1 rfl) ?_
        refine va_get (D := D) (ci := 4) (v := .int (M_people M)) (C := RX4) (T := TX4) (N := 24) hx hb hts iw_X4_shareOf_4 hown hK hP 0 rfl rfl 5 (by decide) (hts (.fieldLink RX4 56 "TownLispModel" "people" "I") (by decide +kernel)) (fun _ h9 => h9) rfl dX4_shareOf_49 ?_
        refine lv_icmp_ne (tgt := 59) hx hb dX4_shareOf_52 (by decide) (fun c_52 => ?_) (fun c_52 => ?_)
        · refine lv_iload hx hb dX4_shareOf_59 (lv_at hl 7 rfl) ?_
          refine lv_iconst (v := (1 : Int32)) hx hb dX4_shareOf_61 (by decide) ?_
          refine lv_iadd hx hb dX4_shareOf_62 ?_
          refine lv_istore (lv' := [(7, .int (x7 + (1 : Int32))), (6, .int (x6 + (0 : Int32))), (0, .ref (ad 0)), (1, .int x1), (2, .int x2), (3, .int x3), (4, .int x4), (5, .int x5)]) hx hb dX4_shareOf_63 hl (by decide) rfl (fun ls hl => ?_)
          refine lv_goto (tgt := 19) hx hb dX4_shareOf_65 (by decide) ?_
          have hF : fL_X4_shareOf_19 M x1 x2 x3 x4 x5 (k + 1) x6 x7 = fL_X4_shareOf_19 M x1 x2 x3 x4 x5 k (x6 + (0 : Int32)) (x7 + (1 : Int32)) := by rw [fL_X4_shareOf_19, if_neg c_22, if_pos c_33, if_neg c_52]
          rw [hF]
          exact ih (x6 + (0 : Int32)) (x7 + (1 : Int32)) (q_n1 hq c_52) (so_mu (cd_1 hq hp3 c_52 c_22) hk) _ _ hP hD hS ls (lv_sub hl [2, 3, 4, 5, 6, 7, 1, 0] rfl)
        · refine lv_iconst (v := (0 : Int32)) hx hb dX4_shareOf_55 (by decide) ?_
          refine lv_goto (tgt := 63) hx hb dX4_shareOf_56 (by decide) ?_
          refine lv_istore (lv' := [(7, .int (0 : Int32)), (6, .int (x6 + (0 : Int32))), (0, .ref (ad 0)), (1, .int x1), (2, .int x2), (3, .int x3), (4, .int x4), (5, .int x5)]) hx hb dX4_shareOf_63 hl (by decide) rfl (fun ls hl => ?_)
          refine lv_goto (tgt := 19) hx hb dX4_shareOf_65 (by decide) ?_
          have hF : fL_X4_shareOf_19 M x1 x2 x3 x4 x5 (k + 1) x6 x7 = fL_X4_shareOf_19 M x1 x2 x3 x4 x5 k (x6 + (0 : Int32)) (0 : Int32) := by rw [fL_X4_shareOf_19, if_neg c_22, if_pos c_33, if_pos c_52]
          rw [hF]
          exact ih (x6 + (0 : Int32)) (0 : Int32) (q_n0 hq) (so_mu (cd_0 hq hp3 c_52 c_22) hk) _ _ hP hD hS ls (lv_sub hl [2, 3, 4, 5, 6, 7, 1, 0] rfl)
      · refine lv_iconst (v := (1 : Int32)) hx hb dX4_shareOf_36 (by decide) ?_
        refine lv_goto (tgt := 41) hx hb dX4_shareOf_37 (by decide) ?_
        refine lv_iadd hx hb dX4_shareOf_41 ?_
        refine lv_istore (lv' := [(6, .int (x6 + (1 : Int32))), (0, .ref (ad 0)), (1, .int x1), (2, .int x2), (3, .int x3), (4, .int x4), (5, .int x5), (7, .int x7)]) hx hb dX4_shareOf_42 hl (by decide) rfl (fun ls hl => ?_)
        refine lv_iload hx hb dX4_shareOf_44 (lv_at hl 7 rfl) ?_
        refine lv_iconst (v := (1 : Int32)) hx hb dX4_shareOf_46 (by decide) ?_
        refine lv_iadd hx hb dX4_shareOf_47 ?_
        refine lv_aload_n hx hb dX4_shareOf_48 rfl (lv_at hl 1 rfl) ?_
        refine va_get (D := D) (ci := 4) (v := .int (M_people M)) (C := RX4) (T := TX4) (N := 24) hx hb hts iw_X4_shareOf_4 hown hK hP 0 rfl rfl 5 (by decide) (hts (.fieldLink RX4 56 "TownLispModel" "people" "I") (by decide +kernel)) (fun _ h9 => h9) rfl dX4_shareOf_49 ?_
        refine lv_icmp_ne (tgt := 59) hx hb dX4_shareOf_52 (by decide) (fun c_52 => ?_) (fun c_52 => ?_)
        · refine lv_iload hx hb dX4_shareOf_59 (lv_at hl 7 rfl) ?_
          refine lv_iconst (v := (1 : Int32)) hx hb dX4_shareOf_61 (by decide) ?_
          refine lv_iadd hx hb dX4_shareOf_62 ?_
          refine lv_istore (lv' := [(7, .int (x7 + (1 : Int32))), (6, .int (x6 + (1 : Int32))), (0, .ref (ad 0)), (1, .int x1), (2, .int x2), (3, .int x3), (4, .int x4), (5, .int x5)]) hx hb dX4_shareOf_63 hl (by decide) rfl (fun ls hl => ?_)
          refine lv_goto (tgt := 19) hx hb dX4_shareOf_65 (by decide) ?_
          have hF : fL_X4_shareOf_19 M x1 x2 x3 x4 x5 (k + 1) x6 x7 = fL_X4_shareOf_19 M x1 x2 x3 x4 x5 k (x6 + (1 : Int32)) (x7 + (1 : Int32)) := by rw [fL_X4_shareOf_19, if_neg c_22, if_neg c_33, if_neg c_52]
          rw [hF]
          exact ih (x6 + (1 : Int32)) (x7 + (1 : Int32)) (q_n1 hq c_52) (so_mu (cd_1 hq hp3 c_52 c_22) hk) _ _ hP hD hS ls (lv_sub hl [2, 3, 4, 5, 6, 7, 1, 0] rfl)
        · refine lv_iconst (v := (0 : Int32)) hx hb dX4_shareOf_55 (by decide) ?_
          refine lv_goto (tgt := 63) hx hb dX4_shareOf_56 (by decide) ?_
          refine lv_istore (lv' := [(7, .int (0 : Int32)), (6, .int (x6 + (1 : Int32))), (0, .ref (ad 0)), (1, .int x1), (2, .int x2), (3, .int x3), (4, .int x4), (5, .int x5)]) hx hb dX4_shareOf_63 hl (by decide) rfl (fun ls hl => ?_)
          refine lv_goto (tgt := 19) hx hb dX4_shareOf_65 (by decide) ?_
          have hF : fL_X4_shareOf_19 M x1 x2 x3 x4 x5 (k + 1) x6 x7 = fL_X4_shareOf_19 M x1 x2 x3 x4 x5 k (x6 + (1 : Int32)) (0 : Int32) := by rw [fL_X4_shareOf_19, if_neg c_22, if_neg c_33, if_pos c_52]
          rw [hF]
          exact ih (x6 + (1 : Int32)) (0 : Int32) (q_n0 hq) (so_mu (cd_0 hq hp3 c_52 c_22) hk) _ _ hP hD hS ls (lv_sub hl [2, 3, 4, 5, 6, 7, 1, 0] rfl)
set_option maxHeartbeats 4000000 in
set_option maxRecDepth 100000 in
theorem c_X4_shareOf (l : Launch) (D : va_G) (cI cO : ClassId) (tF : Nat) (ad : Nat → Nat) (M : MS) (x1 : Int32) (x2 : Int32) (x3 : Int32) (hn : (M_people M).toInt ≤ 6) (hs : ¬ f_X4_size x1 = 0) (hp2 : 0 ≤ x2.toInt ∧ x2.toInt < (M_people M).toInt) (hp3 : 0 ≤ x3.toInt ∧ x3.toInt < (M_people M).toInt) : Ct l yX4_shareOf wsX4_shareOf ({ frames := 2, cells := 0, slots := 0, locals := 44 }) D cI cO tF [.ref (ad 0), .int x1, .int x2, .int x3] (wM ad cI M) (some (.int (f_X4_shareOf M x1 x2 x3))) (wM ad cI M) := by
  refine Ct.of (cc := cX4_shareOf) (maxL := 8) (ret := (some .int)) (own := RX4) (by decide) rfl rfl (Nat.le_of_ble_eq_true rfl) ?_
  intro p e s m args below meth c A ls B hP hD hS hl
  obtain ⟨hx, hb, hret, hml, hts, hown, hlocks, hE, hA⟩ := id B
  have hK := hE.1
  have hl : lv_has ls 8 [(0, .ref (ad 0)), (1, .int x1), (2, .int x2), (3, .int x3)] := hl
  refine lv_aload_n hx hb dX4_shareOf_0 rfl (lv_at hl 0 rfl) ?_
  refine lv_iload_n hx hb dX4_shareOf_1 rfl (lv_at hl 1 rfl) ?_
  refine kc_V (As := [.int x1]) (rest := []) B (c_X4_partsOf l D cI cO tF ad M x1 (hn)) (cwV 1 hts gX4_shareOf_X4_partsOf rfl rfl rfl (by decide +kernel) ⟨Nat.le_of_ble_eq_true rfl, Nat.le_of_ble_eq_true rfl⟩) hP hD hS [0, 1, 2, 3, 4, 5, 6, 7, 8, 9, 10, 11, 12] wM_subA (by decide) (w' := wM ad cI M) (wM_setA _) (wM_fst _) 0 4 rfl rfl rfl rfl hl.1 rfl (Nat.le_of_ble_eq_true rfl) dX4_shareOf_2 ⟨Nat.zero_le _, Nat.zero_le _⟩ (fun H locs hP hD hS => ?_)
  have hD : va_D A (wM ad cI M) := hD
  refine lv_istore (lv' := [(4, .int (f_X4_partsOf M x1)), (0, .ref (ad 0)), (1, .int x1), (2, .int x2), (3, .int x3)]) hx hb dX4_shareOf_5 hl (by decide) rfl (fun ls hl => ?_)
  refine lv_iload_n hx hb dX4_shareOf_7 rfl (lv_at hl 2 rfl) ?_
  refine kc_S (As := [.int x1]) (rest := []) B (c_X4_size l D cI cO tF x1 ) (va_cwS 1 hts gX4_shareOf_X4_size rfl rfl rfl (by decide +kernel) ⟨Nat.le_of_ble_eq_true rfl, Nat.le_of_ble_eq_true rfl⟩) hP hD hS [] rfl (by decide) (w' := wM ad cI M) rfl rfl rfl hl.1 rfl (Nat.le_of_ble_eq_true rfl) dX4_shareOf_8 ⟨Nat.zero_le _, Nat.zero_le _⟩ (fun H locs hP hD hS => ?_)
  have hD : va_D A (wM ad cI M) := hD
  refine lv_istore (lv' := [(5, .int (f_X4_size x1)), (4, .int (f_X4_partsOf M x1)), (0, .ref (ad 0)), (1, .int x1), (2, .int x2), (3, .int x3)]) hx hb dX4_shareOf_11 hl (by decide) rfl (fun ls hl => ?_)
  refine lv_iconst (v := (0 : Int32)) hx hb dX4_shareOf_13 (by decide) ?_
  refine lv_istore (lv' := [(6, .int (0 : Int32)), (5, .int (f_X4_size x1)), (4, .int (f_X4_partsOf M x1)), (0, .ref (ad 0)), (1, .int x1), (2, .int x2), (3, .int x3)]) hx hb dX4_shareOf_14 hl (by decide) rfl (fun ls hl => ?_)
  refine lv_iload_n hx hb dX4_shareOf_16 rfl (lv_at hl 5 rfl) ?_
  refine lv_istore (lv' := [(7, .int x2), (6, .int (0 : Int32)), (5, .int (f_X4_size x1)), (4, .int (f_X4_partsOf M x1)), (0, .ref (ad 0)), (1, .int x1), (2, .int x2), (3, .int x3)]) hx hb dX4_shareOf_17 hl (by decide) rfl (fun ls hl => ?_)
  have hF : f_X4_shareOf M x1 x2 x3 = fL_X4_shareOf_19 M x1 x2 x3 (f_X4_partsOf M x1) (f_X4_size x1) 7 (0 : Int32) x2 := by rw [f_X4_shareOf]
  rw [hF]
  exact L_X4_shareOf_19 l D cI cO tF ad M x1 x2 x3 (f_X4_partsOf M x1) (f_X4_size x1) hn hs hp2 hp3 B (hs) 7 (0 : Int32) x2 (hp2) (Nat.lt_succ_of_lt (cd_lt hn hp2 hp3)) _ _ hP hD hS ls (lv_sub hl [4, 5, 6, 7, 3, 2, 1, 0] rfl)
def fL_X4_doDay_54 (M : MS) (x1 : Int32) : Nat → Int32 → (Nat → Int32) → (Nat → Int32) → MS
  | 0, _, v_shared, v_parts => (M_parts' (M_shared' M v_shared) v_parts)
  | k + 1, x2, v_shared, v_parts => (if (M_people M) ≤ x2 then (M_parts' (M_shared' M v_shared) v_parts) else fL_X4_doDay_54 M x1 k (x2 + (1 : Int32)) v_shared (upd v_parts x2.toNatClampNeg (v_shared x2.toNatClampNeg)))
def fL_X4_doDay_2 (M : MS) (x1 : Int32) : Nat → Int32 → (Nat → Int32) → MS
  | 0, _, v_shared => (M_shared' M v_shared)
  | k + 1, x2, v_shared => (if (M_people M) ≤ x2 then fL_X4_doDay_54 M x1 7 (0 : Int32) v_shared (M_parts M) else (if (f_X4_isOf (M_isIn M) x2) = 0 then fL_X4_doDay_2 M x1 k (x2 + (1 : Int32)) (upd v_shared x2.toNatClampNeg ((M_parts M) x2.toNatClampNeg)) else fL_X4_doDay_2 M x1 k (x2 + (1 : Int32)) (upd v_shared x2.toNatClampNeg (f_X4_shareOf (M_shared' M v_shared) (M_isIn M) x1 x2))))
def f_X4_doDay (M : MS) (x1 : Int32) : MS := fL_X4_doDay_2 M x1 7 (0 : Int32) (M_shared M)
theorem iw_X4_doDay_4 : ∀ w ∈ wsX40, w ∈ wsX4_doDay := fun _ h => List.mem_cons_of_mem _ (List.mem_append_right _ h)
set_option maxHeartbeats 4000000 in
set_option maxRecDepth 100000 in
theorem L_X4_doDay_54 {p : Program} (l : Launch) {e : Env} {s : State} {m : MethodId} {args : Array Value} {below : List Frame} {meth : Method} {c : Code} {A : Nat → Prop} (D : va_G) (cI cO : ClassId) (tF : Nat) (ad : Nat → Nat) (M : MS) (x1 : Int32) (hn : (M_people M).toInt ≤ 6) (hf : 0 ≤ x1.toInt ∧ x1.toInt < (M_people M).toInt) (hs : ¬ f_X4_size (M_isIn M) = 0) (B : Bx p s m args meth c cX4_doDay 3 none wsX4_doDay RX4 D cI cO tF A) : ∀ (k : Nat) (x2 : Int32) (v_shared : (Nat → Int32)) (v_parts : (Nat → Int32)), (0 ≤ x2.toInt) → (((M_people M).toInt - x2.toInt).toNat < k) → ∀ (H : Heap) (locs : List Loc), va_P D vwCl (wM ad cI (M_parts' (M_shared' M v_shared) v_parts)) H → va_D A (wM ad cI (M_parts' (M_shared' M v_shared) v_parts)) → va_S A s.heap H locs → ∀ ls : Array Slot, lv_has ls 3 [(0, .ref (ad 0)), (1, .int x1), (2, .int x2)] → W p l e ({ frames := 3, cells := 0, slots := 0, locals := 71 }) s m args below meth c H locs 0 0 (MQ below (Qp D none (wM ad cI (fL_X4_doDay_54 M x1 k x2 v_shared v_parts)) A) args s 0 0 A) (F0 m 54 ls []) := by
  obtain ⟨hx, hb, hret, hml, hts, hown, hlocks, hE, hA⟩ := id B
  have hK := hE.1
  intro k
  induction k with
  | zero =>
    intro x2 v_shared v_parts h0 hk
    exact absurd hk (Nat.not_lt_zero _)
  | succ k ih =>
    intro x2 v_shared v_parts h0 hk H locs hP hD hS ls hl
    refine lv_iload_n hx hb dX4_doDay_54 rfl (lv_at hl 2 rfl) ?_
    refine lv_aload_n hx hb dX4_doDay_55 rfl (lv_at hl 0 rfl) ?_
    refine va_get (D := D) (ci := 4) (v := .int (M_people M)) (C := RX4) (T := TX4) (N := 24) hx hb hts iw_X4_doDay_4 hown hK hP 0 rfl rfl 5 (by decide) (hts (.fieldLink RX4 56 "TownLispModel" "people" "I") (by decide +kernel)) (fun _ h9 => h9) rfl dX4_doDay_56 ?_
    refine lv_icmp_ge (tgt := 80) hx hb dX4_doDay_59 (by decide) (fun c_59 => ?_) (fun c_59 => ?_)
    · have hF : fL_X4_doDay_54 M x1 (k + 1) x2 v_shared v_parts = (M_parts' (M_shared' M v_shared) v_parts) := by rw [fL_X4_doDay_54, if_pos c_59]
      rw [hF]
      exact kr_v B hP hS rfl dX4_doDay_80
    · refine lv_aload_n hx hb dX4_doDay_62 rfl (lv_at hl 0 rfl) ?_
      refine va_get (D := D) (ci := 4) (v := .ref (ad 5)) (C := RX4) (T := TX4) (N := 24) hx hb hts iw_X4_doDay_4 hown hK hP 0 rfl rfl 10 (by decide) (hts (.fieldLink RX4 22 "TownLispModel" "parts" "[I") (by decide +kernel)) (fun _ h9 => h9) rfl dX4_doDay_63 ?_
      refine lv_iload_n hx hb dX4_doDay_66 rfl (lv_at hl 2 rfl) ?_
      refine lv_aload_n hx hb dX4_doDay_67 rfl (lv_at hl 0 rfl) ?_
      refine va_get (D := D) (ci := 4) (v := .ref (ad 8)) (C := RX4) (T := TX4) (N := 24) hx hb hts iw_X4_doDay_4 hown hK hP 0 rfl rfl 16 (by decide) (hts (.fieldLink RX4 31 "TownLispModel" "shared" "[I") (by decide +kernel)) (fun _ h9 => h9) rfl dX4_doDay_68 ?_
      refine lv_iload_n hx hb dX4_doDay_71 rfl (lv_at hl 2 rfl) ?_
      refine va_iald hx hb hK hP 8 0 rfl rfl (lp_in h0 hn c_59) dX4_doDay_72 ?_
      refine va_iast hx hb hK hP hD hS 5 0 rfl rfl (lp_in h0 hn c_59) dX4_doDay_73 (fun H locs hP hD hS => ?_)
      have hP : va_P D vwCl (wM ad cI (M_parts' (M_shared' M v_shared) (upd v_parts x2.toNatClampNeg (v_shared x2.toNatClampNeg)))) H := hP
      have hD : va_D A (wM ad cI (M_parts' (M_shared' M v_shared) (upd v_parts x2.toNatClampNeg (v_shared x2.toNatClampNeg)))) := hD
      refine lv_iinc (v := (x2 + (1 : Int32))) (lv' := [(2, .int (x2 + (1 : Int32))), (0, .ref (ad 0)), (1, .int x1)]) hx hb dX4_doDay_74 hl (k := 2) rfl rfl (by decide) rfl (fun ls hl => ?_)
      refine lv_goto (tgt := 54) hx hb dX4_doDay_77 (by decide) ?_
      have hF : fL_X4_doDay_54 M x1 (k + 1) x2 v_shared v_parts = fL_X4_doDay_54 M x1 k (x2 + (1 : Int32)) v_shared (upd v_parts x2.toNatClampNeg (v_shared x2.toNatClampNeg)) := by rw [fL_X4_doDay_54, if_neg c_59]
      rw [hF]
      exact ih (x2 + (1 : Int32)) v_shared (upd v_parts x2.toNatClampNeg (v_shared x2.toNatClampNeg)) (lp_pre h0 c_59) (lp_mu h0 c_59 hk) _ _ hP hD hS ls (lv_sub hl [1, 2, 0] rfl)
set_option maxHeartbeats 4000000 in
set_option maxRecDepth 100000 in
theorem L_X4_doDay_2 {p : Program} (l : Launch) {e : Env} {s : State} {m : MethodId} {args : Array Value} {below : List Frame} {meth : Method} {c : Code} {A : Nat → Prop} (D : va_G) (cI cO : ClassId) (tF : Nat) (ad : Nat → Nat) (M : MS) (x1 : Int32) (hn : (M_people M).toInt ≤ 6) (hf : 0 ≤ x1.toInt ∧ x1.toInt < (M_people M).toInt) (hs : ¬ f_X4_size (M_isIn M) = 0) (B : Bx p s m args meth c cX4_doDay 3 none wsX4_doDay RX4 D cI cO tF A) : ∀ (k : Nat) (x2 : Int32) (v_shared : (Nat → Int32)), (0 ≤ x2.toInt) → (((M_people M).toInt - x2.toInt).toNat < k) → ∀ (H : Heap) (locs : List Loc), va_P D vwCl (wM ad cI (M_shared' M v_shared)) H → va_D A (wM ad cI (M_shared' M v_shared)) → va_S A s.heap H locs → ∀ ls : Array Slot, lv_has ls 3 [(0, .ref (ad 0)), (1, .int x1), (2, .int x2)] → W p l e ({ frames := 3, cells := 0, slots := 0, locals := 71 }) s m args below meth c H locs 0 0 (MQ below (Qp D none (wM ad cI (fL_X4_doDay_2 M x1 k x2 v_shared)) A) args s 0 0 A) (F0 m 2 ls []) := by
  obtain ⟨hx, hb, hret, hml, hts, hown, hlocks, hE, hA⟩ := id B
  have hK := hE.1
  intro k
  induction k with
  | zero =>
    intro x2 v_shared h0 hk
    exact absurd hk (Nat.not_lt_zero _)
  | succ k ih =>
    intro x2 v_shared h0 hk H locs hP hD hS ls hl
    refine lv_iload_n hx hb dX4_doDay_2 rfl (lv_at hl 2 rfl) ?_
    refine lv_aload_n hx hb dX4_doDay_3 rfl (lv_at hl 0 rfl) ?_
    refine va_get (D := D) (ci := 4) (v := .int (M_people M)) (C := RX4) (T := TX4) (N := 24) hx hb hts iw_X4_doDay_4 hown hK hP 0 rfl rfl 5 (by decide) (hts (.fieldLink RX4 56 "TownLispModel" "people" "I") (by decide +kernel)) (fun _ h9 => h9) rfl dX4_doDay_4 ?_
    refine lv_icmp_ge (tgt := 52) hx hb dX4_doDay_7 (by decide) (fun c_7 => ?_) (fun c_7 => ?_)
    · refine lv_iconst (v := (0 : Int32)) hx hb dX4_doDay_52 (by decide) ?_
      refine lv_istore_n (lv' := [(2, .int (0 : Int32)), (0, .ref (ad 0)), (1, .int x1)]) hx hb dX4_doDay_53 rfl hl (by decide) rfl (fun ls hl => ?_)
      have hF : fL_X4_doDay_2 M x1 (k + 1) x2 v_shared = fL_X4_doDay_54 M x1 7 (0 : Int32) v_shared (M_parts M) := by rw [fL_X4_doDay_2, if_pos c_7]
      rw [hF]
      exact L_X4_doDay_54 l D cI cO tF ad M x1 hn hf hs B  7 (0 : Int32) v_shared (M_parts M) (Int.le_refl _) (by rw [show (0 : Int32).toInt = 0 from rfl]; omega) _ _ hP hD hS ls (lv_sub hl [1, 2, 0] rfl)
    · refine lv_aload_n hx hb dX4_doDay_10 rfl (lv_at hl 0 rfl) ?_
      refine va_get (D := D) (ci := 4) (v := .ref (ad 8)) (C := RX4) (T := TX4) (N := 24) hx hb hts iw_X4_doDay_4 hown hK hP 0 rfl rfl 16 (by decide) (hts (.fieldLink RX4 31 "TownLispModel" "shared" "[I") (by decide +kernel)) (fun _ h9 => h9) rfl dX4_doDay_11 ?_
      refine lv_iload_n hx hb dX4_doDay_14 rfl (lv_at hl 2 rfl) ?_
      refine lv_aload_n hx hb dX4_doDay_15 rfl (lv_at hl 0 rfl) ?_
      refine va_get (D := D) (ci := 4) (v := .int (M_isIn M)) (C := RX4) (T := TX4) (N := 24) hx hb hts iw_X4_doDay_4 hown hK hP 0 rfl rfl 7 (by decide) (hts (.fieldLink RX4 96 "TownLispModel" "isIn" "I") (by decide +kernel)) (fun _ h9 => h9) rfl dX4_doDay_16 ?_
      refine lv_iload_n hx hb dX4_doDay_19 rfl (lv_at hl 2 rfl) ?_
      refine kc_S (As := [.int (M_isIn M), .int x2]) (rest := [.int x2, .ref (ad 8)]) B (c_X4_isOf l D cI cO tF (M_isIn M) x2 ) (va_cwS 2 hts gX4_doDay_X4_isOf rfl rfl rfl (by decide +kernel) ⟨Nat.le_of_ble_eq_true rfl, Nat.le_of_ble_eq_true rfl⟩) hP hD hS [] rfl (by decide) (w' := wM ad cI (M_shared' M v_shared)) rfl rfl rfl hl.1 rfl (Nat.le_of_ble_eq_true rfl) dX4_doDay_20 ⟨Nat.zero_le _, Nat.zero_le _⟩ (fun H locs hP hD hS => ?_)
      have hD : va_D A (wM ad cI (M_shared' M v_shared)) := hD
      refine lv_if_eq (tgt := 39) hx hb dX4_doDay_23 (by decide) (fun c_23 => ?_) (fun c_23 => ?_)
      · refine lv_aload_n hx hb dX4_doDay_39 rfl (lv_at hl 0 rfl) ?_
        refine va_get (D := D) (ci := 4) (v := .ref (ad 5)) (C := RX4) (T := TX4) (N := 24) hx hb hts iw_X4_doDay_4 hown hK hP 0 rfl rfl 10 (by decide) (hts (.fieldLink RX4 22 "TownLispModel" "parts" "[I") (by decide +kernel)) (fun _ h9 => h9) rfl dX4_doDay_40 ?_
        refine lv_iload_n hx hb dX4_doDay_43 rfl (lv_at hl 2 rfl) ?_
        refine va_iald hx hb hK hP 5 0 rfl rfl (lp_in h0 hn c_7) dX4_doDay_44 ?_
        refine va_iast hx hb hK hP hD hS 8 0 rfl rfl (lp_in h0 hn c_7) dX4_doDay_45 (fun H locs hP hD hS => ?_)
        have hP : va_P D vwCl (wM ad cI (M_shared' M (upd v_shared x2.toNatClampNeg ((M_parts M) x2.toNatClampNeg)))) H := hP
        have hD : va_D A (wM ad cI (M_shared' M (upd v_shared x2.toNatClampNeg ((M_parts M) x2.toNatClampNeg)))) := hD
        refine lv_iinc (v := (x2 + (1 : Int32))) (lv' := [(2, .int (x2 + (1 : Int32))), (0, .ref (ad 0)), (1, .int x1)]) hx hb dX4_doDay_46 hl (k := 2) rfl rfl (by decide) rfl (fun ls hl => ?_)
        refine lv_goto (tgt := 2) hx hb dX4_doDay_49 (by decide) ?_
        have hF : fL_X4_doDay_2 M x1 (k + 1) x2 v_shared = fL_X4_doDay_2 M x1 k (x2 + (1 : Int32)) (upd v_shared x2.toNatClampNeg ((M_parts M) x2.toNatClampNeg)) := by rw [fL_X4_doDay_2, if_neg c_7, if_pos c_23]
        rw [hF]
        exact ih (x2 + (1 : Int32)) (upd v_shared x2.toNatClampNeg ((M_parts M) x2.toNatClampNeg)) (lp_pre h0 c_7) (lp_mu h0 c_7 hk) _ _ hP hD hS ls (lv_sub hl [1, 2, 0] rfl)
      · refine lv_aload_n hx hb dX4_doDay_26 rfl (lv_at hl 0 rfl) ?_
        refine lv_aload_n hx hb dX4_doDay_27 rfl (lv_at hl 0 rfl) ?_
        refine va_get (D := D) (ci := 4) (v := .int (M_isIn M)) (C := RX4) (T := TX4) (N := 24) hx hb hts iw_X4_doDay_4 hown hK hP 0 rfl rfl 7 (by decide) (hts (.fieldLink RX4 96 "TownLispModel" "isIn" "I") (by decide +kernel)) (fun _ h9 => h9) rfl dX4_doDay_28 ?_
        refine lv_iload_n hx hb dX4_doDay_31 rfl (lv_at hl 1 rfl) ?_
        refine lv_iload_n hx hb dX4_doDay_32 rfl (lv_at hl 2 rfl) ?_
        refine kc_V (As := [.int (M_isIn M), .int x1, .int x2]) (rest := [.int x2, .ref (ad 8)]) B (c_X4_shareOf l D cI cO tF ad (M_shared' M v_shared) (M_isIn M) x1 x2 (hn) (hs) (hf) (⟨h0, lp_lt c_7⟩)) (cwV 3 hts gX4_doDay_X4_shareOf rfl rfl rfl (by decide +kernel) ⟨Nat.le_of_ble_eq_true rfl, Nat.le_of_ble_eq_true rfl⟩) hP hD hS [0, 1, 2, 3, 4, 5, 6, 7, 8, 9, 10, 11, 12] wM_subA (by decide) (w' := wM ad cI (M_shared' M v_shared)) (wM_setA _) (wM_fst _) 0 4 rfl rfl rfl rfl hl.1 rfl (Nat.le_of_ble_eq_true rfl) dX4_doDay_33 ⟨Nat.zero_le _, Nat.zero_le _⟩ (fun H locs hP hD hS => ?_)
        have hD : va_D A (wM ad cI (M_shared' M v_shared)) := hD
        refine lv_goto (tgt := 45) hx hb dX4_doDay_36 (by decide) ?_
        refine va_iast hx hb hK hP hD hS 8 0 rfl rfl (lp_in h0 hn c_7) dX4_doDay_45 (fun H locs hP hD hS => ?_)
        have hP : va_P D vwCl (wM ad cI (M_shared' M (upd v_shared x2.toNatClampNeg (f_X4_shareOf (M_shared' M v_shared) (M_isIn M) x1 x2)))) H := hP
        have hD : va_D A (wM ad cI (M_shared' M (upd v_shared x2.toNatClampNeg (f_X4_shareOf (M_shared' M v_shared) (M_isIn M) x1 x2)))) := hD
        refine lv_iinc (v := (x2 + (1 : Int32))) (lv' := [(2, .int (x2 + (1 : Int32))), (0, .ref (ad 0)), (1, .int x1)]) hx hb dX4_doDay_46 hl (k := 2) rfl rfl (by decide) rfl (fun ls hl => ?_)
        refine lv_goto (tgt := 2) hx hb dX4_doDay_49 (by decide) ?_
        have hF : fL_X4_doDay_2 M x1 (k + 1) x2 v_shared = fL_X4_doDay_2 M x1 k (x2 + (1 : Int32)) (upd v_shared x2.toNatClampNeg (f_X4_shareOf (M_shared' M v_shared) (M_isIn M) x1 x2)) := by rw [fL_X4_doDay_2, if_neg c_7, if_neg c_23]
        rw [hF]
        exact ih (x2 + (1 : Int32)) (upd v_shared x2.toNatClampNeg (f_X4_shareOf (M_shared' M v_shared) (M_isIn M) x1 x2)) (lp_pre h0 c_7) (lp_mu h0 c_7 hk) _ _ hP hD hS ls (lv_sub hl [1, 2, 0] rfl)
set_option maxHeartbeats 4000000 in
set_option maxRecDepth 100000 in
theorem c_X4_doDay (l : Launch) (D : va_G) (cI cO : ClassId) (tF : Nat) (ad : Nat → Nat) (M : MS) (x1 : Int32) (hn : (M_people M).toInt ≤ 6) (hf : 0 ≤ x1.toInt ∧ x1.toInt < (M_people M).toInt) (hs : ¬ f_X4_size (M_isIn M) = 0) : Ct l yX4_doDay wsX4_doDay ({ frames := 3, cells := 0, slots := 0, locals := 71 }) D cI cO tF [.ref (ad 0), .int x1] (wM ad cI M) none (wM ad cI (f_X4_doDay M x1)) := by
  refine Ct.of (cc := cX4_doDay) (maxL := 3) (ret := none) (own := RX4) (by decide) rfl rfl (Nat.le_of_ble_eq_true rfl) ?_
  intro p e s m args below meth c A ls B hP hD hS hl
  obtain ⟨hx, hb, hret, hml, hts, hown, hlocks, hE, hA⟩ := id B
  have hK := hE.1
  have hl : lv_has ls 3 [(0, .ref (ad 0)), (1, .int x1)] := hl
  refine lv_iconst (v := (0 : Int32)) hx hb dX4_doDay_0 (by decide) ?_
  refine lv_istore_n (lv' := [(2, .int (0 : Int32)), (0, .ref (ad 0)), (1, .int x1)]) hx hb dX4_doDay_1 rfl hl (by decide) rfl (fun ls hl => ?_)
  have hF : f_X4_doDay M x1 = fL_X4_doDay_2 M x1 7 (0 : Int32) (M_shared M) := by rw [f_X4_doDay]
  rw [hF]
  exact L_X4_doDay_2 l D cI cO tF ad M x1 hn hf hs B  7 (0 : Int32) (M_shared M) (Int.le_refl _) (by rw [show (0 : Int32).toInt = 0 from rfl]; omega) _ _ hP hD hS ls (lv_sub hl [1, 2, 0] rfl)
def f_X4_day (M : MS) (x1 : Int32) : Int32 × MS := (if (f_X4_isPerson M x1) = 0 then ((-1 : Int32), M) else (if (M_isIn M) = 0 then ((-3 : Int32), M) else (((f_X4_partsOf M (M_isIn M)) / (f_X4_size (M_isIn M))), (M_days' (f_X4_doDay M x1) ((M_days (f_X4_doDay M x1)) + (1 : Int32))))))
theorem iw_X4_day_4 : ∀ w ∈ wsX40, w ∈ wsX4_day := fun _ h => List.mem_cons_of_mem _ (List.mem_append_right _ h)
set_option maxHeartbeats 4000000 in
set_option maxRecDepth 100000 in
theorem c_X4_day (l : Launch) (D : va_G) (cI cO : ClassId) (tF : Nat) (ad : Nat → Nat) (M : MS) (x1 : Int32) (hn : (M_people M).toInt ≤ 6) (hso : so (M_isIn M) (M_people M)) : Ct l yX4_day wsX4_day ({ frames := 4, cells := 0, slots := 0, locals := 93 }) D cI cO tF [.ref (ad 0), .int x1] (wM ad cI M) (some (.int ((f_X4_day M x1).1))) (wM ad cI ((f_X4_day M x1).2)) := by
  refine Ct.of (cc := cX4_day) (maxL := 3) (ret := (some .int)) (own := RX4) (by decide) rfl rfl (Nat.le_of_ble_eq_true rfl) ?_
  intro p e s m args below meth c A ls B hP hD hS hl
  obtain ⟨hx, hb, hret, hml, hts, hown, hlocks, hE, hA⟩ := id B
  have hK := hE.1
  have hl : lv_has ls 3 [(0, .ref (ad 0)), (1, .int x1)] := hl
  refine lv_aload_n hx hb dX4_day_0 rfl (lv_at hl 0 rfl) ?_
  refine lv_iload_n hx hb dX4_day_1 rfl (lv_at hl 1 rfl) ?_
  refine kc_V (As := [.int x1]) (rest := []) B (c_X4_isPerson l D cI cO tF ad M x1 ) (cwV 1 hts gX4_day_X4_isPerson rfl rfl rfl (by decide +kernel) ⟨Nat.le_of_ble_eq_true rfl, Nat.le_of_ble_eq_true rfl⟩) hP hD hS [0, 1, 2, 3, 4, 5, 6, 7, 8, 9, 10, 11, 12] wM_subA (by decide) (w' := wM ad cI M) (wM_setA _) (wM_fst _) 0 4 rfl rfl rfl rfl hl.1 rfl (Nat.le_of_ble_eq_true rfl) dX4_day_2 ⟨Nat.zero_le _, Nat.zero_le _⟩ (fun H locs hP hD hS => ?_)
  have hD : va_D A (wM ad cI M) := hD
  refine lv_if_ne (tgt := 10) hx hb dX4_day_5 (by decide) (fun c_5 => ?_) (fun c_5 => ?_)
  · refine lv_aload_n hx hb dX4_day_10 rfl (lv_at hl 0 rfl) ?_
    refine va_get (D := D) (ci := 4) (v := .int (M_isIn M)) (C := RX4) (T := TX4) (N := 24) hx hb hts iw_X4_day_4 hown hK hP 0 rfl rfl 7 (by decide) (hts (.fieldLink RX4 96 "TownLispModel" "isIn" "I") (by decide +kernel)) (fun _ h9 => h9) rfl dX4_day_11 ?_
    refine lv_if_ne (tgt := 20) hx hb dX4_day_14 (by decide) (fun c_14 => ?_) (fun c_14 => ?_)
    · refine lv_aload_n hx hb dX4_day_20 rfl (lv_at hl 0 rfl) ?_
      refine lv_aload_n hx hb dX4_day_21 rfl (lv_at hl 0 rfl) ?_
      refine va_get (D := D) (ci := 4) (v := .int (M_isIn M)) (C := RX4) (T := TX4) (N := 24) hx hb hts iw_X4_day_4 hown hK hP 0 rfl rfl 7 (by decide) (hts (.fieldLink RX4 96 "TownLispModel" "isIn" "I") (by decide +kernel)) (fun _ h9 => h9) rfl dX4_day_22 ?_
      refine kc_V (As := [.int (M_isIn M)]) (rest := []) B (c_X4_partsOf l D cI cO tF ad M (M_isIn M) (hn)) (cwV 1 hts gX4_day_X4_partsOf rfl rfl rfl (by decide +kernel) ⟨Nat.le_of_ble_eq_true rfl, Nat.le_of_ble_eq_true rfl⟩) hP hD hS [0, 1, 2, 3, 4, 5, 6, 7, 8, 9, 10, 11, 12] wM_subA (by decide) (w' := wM ad cI M) (wM_setA _) (wM_fst _) 0 4 rfl rfl rfl rfl hl.1 rfl (Nat.le_of_ble_eq_true rfl) dX4_day_25 ⟨Nat.zero_le _, Nat.zero_le _⟩ (fun H locs hP hD hS => ?_)
      have hD : va_D A (wM ad cI M) := hD
      refine lv_aload_n hx hb dX4_day_28 rfl (lv_at hl 0 rfl) ?_
      refine va_get (D := D) (ci := 4) (v := .int (M_isIn M)) (C := RX4) (T := TX4) (N := 24) hx hb hts iw_X4_day_4 hown hK hP 0 rfl rfl 7 (by decide) (hts (.fieldLink RX4 96 "TownLispModel" "isIn" "I") (by decide +kernel)) (fun _ h9 => h9) rfl dX4_day_29 ?_
      refine kc_S (As := [.int (M_isIn M)]) (rest := [.int (f_X4_partsOf M (M_isIn M))]) B (c_X4_size l D cI cO tF (M_isIn M) ) (va_cwS 1 hts gX4_day_X4_size rfl rfl rfl (by decide +kernel) ⟨Nat.le_of_ble_eq_true rfl, Nat.le_of_ble_eq_true rfl⟩) hP hD hS [] rfl (by decide) (w' := wM ad cI M) rfl rfl rfl hl.1 rfl (Nat.le_of_ble_eq_true rfl) dX4_day_32 ⟨Nat.zero_le _, Nat.zero_le _⟩ (fun H locs hP hD hS => ?_)
      have hD : va_D A (wM ad cI M) := hD
      refine lv_idiv hx hb dX4_day_35 (so_sz hso c_14) ?_
      refine lv_istore_n (lv' := [(2, .int ((f_X4_partsOf M (M_isIn M)) / (f_X4_size (M_isIn M)))), (0, .ref (ad 0)), (1, .int x1)]) hx hb dX4_day_36 rfl hl (by decide) rfl (fun ls hl => ?_)
      refine lv_aload_n hx hb dX4_day_37 rfl (lv_at hl 1 rfl) ?_
      refine lv_iload_n hx hb dX4_day_38 rfl (lv_at hl 2 rfl) ?_
      refine kc_V (As := [.int x1]) (rest := []) B (c_X4_doDay l D cI cO tF ad M x1 (hn) (mi_r c_5) (so_sz hso c_14)) (cwV 1 hts gX4_day_X4_doDay rfl rfl rfl (by decide +kernel) ⟨Nat.le_of_ble_eq_true rfl, Nat.le_of_ble_eq_true rfl⟩) hP hD hS [0, 1, 2, 3, 4, 5, 6, 7, 8, 9, 10, 11, 12] wM_subA (by decide) (w' := wM ad cI (f_X4_doDay M x1)) (wM_setA _) (wM_fst _) 0 4 rfl rfl rfl rfl hl.1 rfl (Nat.le_of_ble_eq_true rfl) dX4_day_39 ⟨Nat.zero_le _, Nat.zero_le _⟩ (fun H locs hP hD hS => ?_)
      have hD : va_D A (wM ad cI (f_X4_doDay M x1)) := hD
      refine lv_aload_n hx hb dX4_day_42 rfl (lv_at hl 1 rfl) ?_
      refine lv_dup hx hb dX4_day_43 rfl ?_
      refine va_get (D := D) (ci := 4) (v := .int (M_days (f_X4_doDay M x1))) (C := RX4) (T := TX4) (N := 24) hx hb hts iw_X4_day_4 hown hK hP 0 rfl rfl 8 (by decide) (hts (.fieldLink RX4 99 "TownLispModel" "days" "I") (by decide +kernel)) (fun _ h9 => h9) rfl dX4_day_44 ?_
      refine lv_iconst (v := (1 : Int32)) hx hb dX4_day_47 (by decide) ?_
      refine lv_iadd hx hb dX4_day_48 ?_
      refine va_put (D := D) (ci := 4) (v := .int ((M_days (f_X4_doDay M x1)) + (1 : Int32))) (ty := .int) (C := RX4) (T := TX4) (N := 24) hx hb hts iw_X4_day_4 tyX4 tyX4_ok nmX4 hown hK hP hD hS 0 rfl rfl 8 (by decide) (hts (.fieldLink RX4 99 "TownLispModel" "days" "I") (by decide +kernel)) (fun _ h9 => h9) rfl (by decide +kernel) rfl rfl (Nat.le_of_ble_eq_true rfl) dX4_day_49 (fun H locs hP hD hS => ?_)
      have hP : va_P D vwCl (wM ad cI (M_days' (f_X4_doDay M x1) ((M_days (f_X4_doDay M x1)) + (1 : Int32)))) H := hP
      have hD : va_D A (wM ad cI (M_days' (f_X4_doDay M x1) ((M_days (f_X4_doDay M x1)) + (1 : Int32)))) := hD
      refine lv_iload_n hx hb dX4_day_52 rfl (lv_at hl 0 rfl) ?_
      have hF : f_X4_day M x1 = (((f_X4_partsOf M (M_isIn M)) / (f_X4_size (M_isIn M))), (M_days' (f_X4_doDay M x1) ((M_days (f_X4_doDay M x1)) + (1 : Int32)))) := by rw [f_X4_day, if_neg c_5, if_neg c_14]
      rw [hF]
      exact kr_i B hP hS rfl rfl dX4_day_53
    · refine lv_bipush (v := (-3 : Int32)) hx hb dX4_day_17 (by decide) ?_
      have hF : f_X4_day M x1 = ((-3 : Int32), M) := by rw [f_X4_day, if_neg c_5, if_pos c_14]
      rw [hF]
      exact kr_i B hP hS rfl rfl dX4_day_19
  · refine lv_iconst (v := (-1 : Int32)) hx hb dX4_day_8 (by decide) ?_
    have hF : f_X4_day M x1 = ((-1 : Int32), M) := by rw [f_X4_day, if_pos c_5]
    rw [hF]
    exact kr_i B hP hS rfl rfl dX4_day_9
def fL_X4_doLeave_48 (M : MS) (x1 : Int32) : Nat → Int32 → Int32 → Int32 → (Nat → Int32) → MS
  | 0, _, _, v_isIn, v_parts => (M_parts' (M_isIn' M v_isIn) v_parts)
  | k + 1, x2, x3, v_isIn, v_parts => (if x2 ≤ 0 then (M_parts' (M_isIn' M v_isIn) v_parts) else (if (f_X4_isOf v_isIn x3) = 0 then (if (x3 + (1 : Int32)) = (M_people M) then fL_X4_doLeave_48 M x1 k x2 (0 : Int32) v_isIn v_parts else fL_X4_doLeave_48 M x1 k x2 (x3 + (1 : Int32)) v_isIn v_parts) else (if (x3 + (1 : Int32)) = (M_people M) then fL_X4_doLeave_48 M x1 k (x2 + (-1 : Int32)) (0 : Int32) v_isIn (upd v_parts x3.toNatClampNeg ((v_parts x3.toNatClampNeg) + (1 : Int32))) else fL_X4_doLeave_48 M x1 k (x2 + (-1 : Int32)) (x3 + (1 : Int32)) v_isIn (upd v_parts x3.toNatClampNeg ((v_parts x3.toNatClampNeg) + (1 : Int32))))))
def f_X4_doLeave (M : MS) (x1 : Int32) : MS := (if ((M_isIn M) &&& (((1 : Int32) <<< (x1 &&& 31)) ^^^ (-1 : Int32))) = 0 then (M_tin' (M_parts' (M_isIn' M ((M_isIn M) &&& (((1 : Int32) <<< (x1 &&& 31)) ^^^ (-1 : Int32)))) (upd (M_parts M) x1.toNatClampNeg (0 : Int32))) ((M_tin M) + ((M_parts M) x1.toNatClampNeg))) else fL_X4_doLeave_48 M x1 (((M_parts M) x1.toNatClampNeg).toInt.toNat * 6 + 7) ((M_parts M) x1.toNatClampNeg) (0 : Int32) ((M_isIn M) &&& (((1 : Int32) <<< (x1 &&& 31)) ^^^ (-1 : Int32))) (upd (M_parts M) x1.toNatClampNeg (0 : Int32)))
theorem iw_X4_doLeave_4 : ∀ w ∈ wsX40, w ∈ wsX4_doLeave := fun _ h => List.mem_cons_of_mem _ (List.mem_append_right _ h)
set_option maxHeartbeats 4000000 in
set_option maxRecDepth 100000 in
theorem L_X4_doLeave_48 {p : Program} (l : Launch) {e : Env} {s : State} {m : MethodId} {args : Array Value} {below : List Frame} {meth : Method} {c : Code} {A : Nat → Prop} (D : va_G) (cI cO : ClassId) (tF : Nat) (ad : Nat → Nat) (M : MS) (x1 : Int32) (hn : (M_people M).toInt ≤ 6) (hp : vp_in x1 6) (hex : ¬ ((M_isIn M) &&& (((1 : Int32) <<< (x1 &&& 31)) ^^^ (-1 : Int32))) = 0 → ∃ r0 : Int32, (0 ≤ r0.toInt ∧ r0.toInt < (M_people M).toInt) ∧ ¬ f_X4_isOf ((M_isIn M) &&& (((1 : Int32) <<< (x1 &&& 31)) ^^^ (-1 : Int32))) r0 = 0) (B : Bx p s m args meth c cX4_doLeave 4 none wsX4_doLeave RX4 D cI cO tF A) (r0 : Int32) (hr : 0 ≤ r0.toInt ∧ r0.toInt < (M_people M).toInt) : ∀ (k : Nat) (x2 : Int32) (x3 : Int32) (v_isIn : Int32) (v_parts : (Nat → Int32)), (0 ≤ x3.toInt ∧ x3.toInt < (M_people M).toInt) → (¬ f_X4_isOf v_isIn r0 = 0) → (x2.toInt.toNat * 6 + cd x3 r0 (M_people M) < k) → ∀ (H : Heap) (locs : List Loc), va_P D vwCl (wM ad cI (M_parts' (M_isIn' M v_isIn) v_parts)) H → va_D A (wM ad cI (M_parts' (M_isIn' M v_isIn) v_parts)) → va_S A s.heap H locs → ∀ ls : Array Slot, lv_has ls 4 [(0, .ref (ad 0)), (1, .int x1), (2, .int x2), (3, .int x3)] → W p l e ({ frames := 1, cells := 0, slots := 0, locals := 21 }) s m args below meth c H locs 0 0 (MQ below (Qp D none (wM ad cI (fL_X4_doLeave_48 M x1 k x2 x3 v_isIn v_parts)) A) args s 0 0 A) (F0 m 48 ls []) := by
  obtain ⟨hx, hb, hret, hml, hts, hown, hlocks, hE, hA⟩ := id B
  have hK := hE.1
  intro k
  induction k with
  | zero =>
    intro x2 x3 v_isIn v_parts hq hm hk
    exact absurd hk (Nat.not_lt_zero _)
  | succ k ih =>
    intro x2 x3 v_isIn v_parts hq hm hk H locs hP hD hS ls hl
    refine lv_iload_n hx hb dX4_doLeave_48 rfl (lv_at hl 2 rfl) ?_
    refine lv_if_le (tgt := 97) hx hb dX4_doLeave_49 (by decide) (fun c_49 => ?_) (fun c_49 => ?_)
    · have hF : fL_X4_doLeave_48 M x1 (k + 1) x2 x3 v_isIn v_parts = (M_parts' (M_isIn' M v_isIn) v_parts) := by rw [fL_X4_doLeave_48, if_pos c_49]
      rw [hF]
      exact kr_v B hP hS rfl dX4_doLeave_97
    · refine lv_aload_n hx hb dX4_doLeave_52 rfl (lv_at hl 0 rfl) ?_
      refine va_get (D := D) (ci := 4) (v := .int v_isIn) (C := RX4) (T := TX4) (N := 24) hx hb hts iw_X4_doLeave_4 hown hK hP 0 rfl rfl 7 (by decide) (hts (.fieldLink RX4 96 "TownLispModel" "isIn" "I") (by decide +kernel)) (fun _ h9 => h9) rfl dX4_doLeave_53 ?_
      refine lv_iload_n hx hb dX4_doLeave_56 rfl (lv_at hl 3 rfl) ?_
      refine kc_S (As := [.int v_isIn, .int x3]) (rest := []) B (c_X4_isOf l D cI cO tF v_isIn x3 ) (va_cwS 2 hts gX4_doLeave_X4_isOf rfl rfl rfl (by decide +kernel) ⟨Nat.le_of_ble_eq_true rfl, Nat.le_of_ble_eq_true rfl⟩) hP hD hS [] rfl (by decide) (w' := wM ad cI (M_parts' (M_isIn' M v_isIn) v_parts)) rfl rfl rfl hl.1 rfl (Nat.le_of_ble_eq_true rfl) dX4_doLeave_57 ⟨Nat.zero_le _, Nat.zero_le _⟩ (fun H locs hP hD hS => ?_)
      have hD : va_D A (wM ad cI (M_parts' (M_isIn' M v_isIn) v_parts)) := hD
      refine lv_if_eq (tgt := 76) hx hb dX4_doLeave_60 (by decide) (fun c_60 => ?_) (fun c_60 => ?_)
      · refine lv_iload_n hx hb dX4_doLeave_76 rfl (lv_at hl 3 rfl) ?_
        refine lv_iconst (v := (1 : Int32)) hx hb dX4_doLeave_77 (by decide) ?_
        refine lv_iadd hx hb dX4_doLeave_78 ?_
        refine lv_aload_n hx hb dX4_doLeave_79 rfl (lv_at hl 0 rfl) ?_
        refine va_get (D := D) (ci := 4) (v := .int (M_people M)) (C := RX4) (T := TX4) (N := 24) hx hb hts iw_X4_doLeave_4 hown hK hP 0 rfl rfl 5 (by decide) (hts (.fieldLink RX4 56 "TownLispModel" "people" "I") (by decide +kernel)) (fun _ h9 => h9) rfl dX4_doLeave_80 ?_
        refine lv_icmp_ne (tgt := 90) hx hb dX4_doLeave_83 (by decide) (fun c_83 => ?_) (fun c_83 => ?_)
        · refine lv_iload_n hx hb dX4_doLeave_90 rfl (lv_at hl 3 rfl) ?_
          refine lv_iconst (v := (1 : Int32)) hx hb dX4_doLeave_91 (by decide) ?_
          refine lv_iadd hx hb dX4_doLeave_92 ?_
          refine lv_istore_n (lv' := [(3, .int (x3 + (1 : Int32))), (0, .ref (ad 0)), (1, .int x1), (2, .int x2)]) hx hb dX4_doLeave_93 rfl hl (by decide) rfl (fun ls hl => ?_)
          refine lv_goto (tgt := 48) hx hb dX4_doLeave_94 (by decide) ?_
          have hF : fL_X4_doLeave_48 M x1 (k + 1) x2 x3 v_isIn v_parts = fL_X4_doLeave_48 M x1 k x2 (x3 + (1 : Int32)) v_isIn v_parts := by rw [fL_X4_doLeave_48, if_neg c_49, if_pos c_60, if_neg c_83]
          rw [hF]
          exact ih x2 (x3 + (1 : Int32)) v_isIn v_parts (q_n1 hq c_83) (hm) (dl_a (cd_1 hq hr c_83 (dl_ne c_60 hm)) hk) _ _ hP hD hS ls (lv_sub hl [1, 2, 3, 0] rfl)
        · refine lv_iconst (v := (0 : Int32)) hx hb dX4_doLeave_86 (by decide) ?_
          refine lv_goto (tgt := 93) hx hb dX4_doLeave_87 (by decide) ?_
          refine lv_istore_n (lv' := [(3, .int (0 : Int32)), (0, .ref (ad 0)), (1, .int x1), (2, .int x2)]) hx hb dX4_doLeave_93 rfl hl (by decide) rfl (fun ls hl => ?_)
          refine lv_goto (tgt := 48) hx hb dX4_doLeave_94 (by decide) ?_
          have hF : fL_X4_doLeave_48 M x1 (k + 1) x2 x3 v_isIn v_parts = fL_X4_doLeave_48 M x1 k x2 (0 : Int32) v_isIn v_parts := by rw [fL_X4_doLeave_48, if_neg c_49, if_pos c_60, if_pos c_83]
          rw [hF]
          exact ih x2 (0 : Int32) v_isIn v_parts (q_n0 hq) (hm) (dl_a (cd_0 hq hr c_83 (dl_ne c_60 hm)) hk) _ _ hP hD hS ls (lv_sub hl [1, 2, 3, 0] rfl)
      · refine lv_aload_n hx hb dX4_doLeave_63 rfl (lv_at hl 0 rfl) ?_
        refine va_get (D := D) (ci := 4) (v := .ref (ad 5)) (C := RX4) (T := TX4) (N := 24) hx hb hts iw_X4_doLeave_4 hown hK hP 0 rfl rfl 10 (by decide) (hts (.fieldLink RX4 22 "TownLispModel" "parts" "[I") (by decide +kernel)) (fun _ h9 => h9) rfl dX4_doLeave_64 ?_
        refine lv_iload_n hx hb dX4_doLeave_67 rfl (lv_at hl 3 rfl) ?_
        refine lv_dup2_11 hx hb dX4_doLeave_68 rfl rfl ?_
        refine va_iald hx hb hK hP 5 0 rfl rfl (q_in hn hq) dX4_doLeave_69 ?_
        refine lv_iconst (v := (1 : Int32)) hx hb dX4_doLeave_70 (by decide) ?_
        refine lv_iadd hx hb dX4_doLeave_71 ?_
        refine va_iast hx hb hK hP hD hS 5 0 rfl rfl (q_in hn hq) dX4_doLeave_72 (fun H locs hP hD hS => ?_)
        have hP : va_P D vwCl (wM ad cI (M_parts' (M_isIn' M v_isIn) (upd v_parts x3.toNatClampNeg ((v_parts x3.toNatClampNeg) + (1 : Int32))))) H := hP
        have hD : va_D A (wM ad cI (M_parts' (M_isIn' M v_isIn) (upd v_parts x3.toNatClampNeg ((v_parts x3.toNatClampNeg) + (1 : Int32))))) := hD
        refine lv_iinc (v := (x2 + (-1 : Int32))) (lv' := [(2, .int (x2 + (-1 : Int32))), (0, .ref (ad 0)), (1, .int x1), (3, .int x3)]) hx hb dX4_doLeave_73 hl (k := 2) rfl rfl (by decide) rfl (fun ls hl => ?_)
        refine lv_iload_n hx hb dX4_doLeave_76 rfl (lv_at hl 3 rfl) ?_
        refine lv_iconst (v := (1 : Int32)) hx hb dX4_doLeave_77 (by decide) ?_
        refine lv_iadd hx hb dX4_doLeave_78 ?_
        refine lv_aload_n hx hb dX4_doLeave_79 rfl (lv_at hl 1 rfl) ?_
        refine va_get (D := D) (ci := 4) (v := .int (M_people M)) (C := RX4) (T := TX4) (N := 24) hx hb hts iw_X4_doLeave_4 hown hK hP 0 rfl rfl 5 (by decide) (hts (.fieldLink RX4 56 "TownLispModel" "people" "I") (by decide +kernel)) (fun _ h9 => h9) rfl dX4_doLeave_80 ?_
        refine lv_icmp_ne (tgt := 90) hx hb dX4_doLeave_83 (by decide) (fun c_83 => ?_) (fun c_83 => ?_)
        · refine lv_iload_n hx hb dX4_doLeave_90 rfl (lv_at hl 3 rfl) ?_
          refine lv_iconst (v := (1 : Int32)) hx hb dX4_doLeave_91 (by decide) ?_
          refine lv_iadd hx hb dX4_doLeave_92 ?_
          refine lv_istore_n (lv' := [(3, .int (x3 + (1 : Int32))), (2, .int (x2 + (-1 : Int32))), (0, .ref (ad 0)), (1, .int x1)]) hx hb dX4_doLeave_93 rfl hl (by decide) rfl (fun ls hl => ?_)
          refine lv_goto (tgt := 48) hx hb dX4_doLeave_94 (by decide) ?_
          have hF : fL_X4_doLeave_48 M x1 (k + 1) x2 x3 v_isIn v_parts = fL_X4_doLeave_48 M x1 k (x2 + (-1 : Int32)) (x3 + (1 : Int32)) v_isIn (upd v_parts x3.toNatClampNeg ((v_parts x3.toNatClampNeg) + (1 : Int32))) := by rw [fL_X4_doLeave_48, if_neg c_49, if_neg c_60, if_neg c_83]
          rw [hF]
          exact ih (x2 + (-1 : Int32)) (x3 + (1 : Int32)) v_isIn (upd v_parts x3.toNatClampNeg ((v_parts x3.toNatClampNeg) + (1 : Int32))) (q_n1 hq c_83) (hm) (dl_b c_49 (cd_lt hn (q_n1 hq c_83) hr) hk) _ _ hP hD hS ls (lv_sub hl [2, 3, 1, 0] rfl)
        · refine lv_iconst (v := (0 : Int32)) hx hb dX4_doLeave_86 (by decide) ?_
          refine lv_goto (tgt := 93) hx hb dX4_doLeave_87 (by decide) ?_
          refine lv_istore_n (lv' := [(3, .int (0 : Int32)), (2, .int (x2 + (-1 : Int32))), (0, .ref (ad 0)), (1, .int x1)]) hx hb dX4_doLeave_93 rfl hl (by decide) rfl (fun ls hl => ?_)
          refine lv_goto (tgt := 48) hx hb dX4_doLeave_94 (by decide) ?_
          have hF : fL_X4_doLeave_48 M x1 (k + 1) x2 x3 v_isIn v_parts = fL_X4_doLeave_48 M x1 k (x2 + (-1 : Int32)) (0 : Int32) v_isIn (upd v_parts x3.toNatClampNeg ((v_parts x3.toNatClampNeg) + (1 : Int32))) := by rw [fL_X4_doLeave_48, if_neg c_49, if_neg c_60, if_pos c_83]
          rw [hF]
          exact ih (x2 + (-1 : Int32)) (0 : Int32) v_isIn (upd v_parts x3.toNatClampNeg ((v_parts x3.toNatClampNeg) + (1 : Int32))) (q_n0 hq) (hm) (dl_b c_49 (cd_lt hn (q_n0 hq) hr) hk) _ _ hP hD hS ls (lv_sub hl [2, 3, 1, 0] rfl)
set_option maxHeartbeats 4000000 in
set_option maxRecDepth 100000 in
theorem c_X4_doLeave (l : Launch) (D : va_G) (cI cO : ClassId) (tF : Nat) (ad : Nat → Nat) (M : MS) (x1 : Int32) (hn : (M_people M).toInt ≤ 6) (hp : vp_in x1 6) (hex : ¬ ((M_isIn M) &&& (((1 : Int32) <<< (x1 &&& 31)) ^^^ (-1 : Int32))) = 0 → ∃ r0 : Int32, (0 ≤ r0.toInt ∧ r0.toInt < (M_people M).toInt) ∧ ¬ f_X4_isOf ((M_isIn M) &&& (((1 : Int32) <<< (x1 &&& 31)) ^^^ (-1 : Int32))) r0 = 0) : Ct l yX4_doLeave wsX4_doLeave ({ frames := 1, cells := 0, slots := 0, locals := 21 }) D cI cO tF [.ref (ad 0), .int x1] (wM ad cI M) none (wM ad cI (f_X4_doLeave M x1)) := by
  refine Ct.of (cc := cX4_doLeave) (maxL := 4) (ret := none) (own := RX4) (by decide) rfl rfl (Nat.le_of_ble_eq_true rfl) ?_
  intro p e s m args below meth c A ls B hP hD hS hl
  obtain ⟨hx, hb, hret, hml, hts, hown, hlocks, hE, hA⟩ := id B
  have hK := hE.1
  have hl : lv_has ls 4 [(0, .ref (ad 0)), (1, .int x1)] := hl
  refine lv_aload_n hx hb dX4_doLeave_0 rfl (lv_at hl 0 rfl) ?_
  refine lv_dup hx hb dX4_doLeave_1 rfl ?_
  refine va_get (D := D) (ci := 4) (v := .int (M_isIn M)) (C := RX4) (T := TX4) (N := 24) hx hb hts iw_X4_doLeave_4 hown hK hP 0 rfl rfl 7 (by decide) (hts (.fieldLink RX4 96 "TownLispModel" "isIn" "I") (by decide +kernel)) (fun _ h9 => h9) rfl dX4_doLeave_2 ?_
  refine lv_iconst (v := (1 : Int32)) hx hb dX4_doLeave_5 (by decide) ?_
  refine lv_iload_n hx hb dX4_doLeave_6 rfl (lv_at hl 1 rfl) ?_
  refine lv_ishl hx hb dX4_doLeave_7 ?_
  refine lv_iconst (v := (-1 : Int32)) hx hb dX4_doLeave_8 (by decide) ?_
  refine lv_ixor hx hb dX4_doLeave_9 ?_
  refine lv_iand hx hb dX4_doLeave_10 ?_
  refine va_put (D := D) (ci := 4) (v := .int ((M_isIn M) &&& (((1 : Int32) <<< (x1 &&& 31)) ^^^ (-1 : Int32)))) (ty := .int) (C := RX4) (T := TX4) (N := 24) hx hb hts iw_X4_doLeave_4 tyX4 tyX4_ok nmX4 hown hK hP hD hS 0 rfl rfl 7 (by decide) (hts (.fieldLink RX4 96 "TownLispModel" "isIn" "I") (by decide +kernel)) (fun _ h9 => h9) rfl (by decide +kernel) rfl rfl (Nat.le_of_ble_eq_true rfl) dX4_doLeave_11 (fun H locs hP hD hS => ?_)
  have hP : va_P D vwCl (wM ad cI (M_isIn' M ((M_isIn M) &&& (((1 : Int32) <<< (x1 &&& 31)) ^^^ (-1 : Int32))))) H := hP
  have hD : va_D A (wM ad cI (M_isIn' M ((M_isIn M) &&& (((1 : Int32) <<< (x1 &&& 31)) ^^^ (-1 : Int32))))) := hD
  refine lv_aload_n hx hb dX4_doLeave_14 rfl (lv_at hl 0 rfl) ?_
  refine va_get (D := D) (ci := 4) (v := .ref (ad 5)) (C := RX4) (T := TX4) (N := 24) hx hb hts iw_X4_doLeave_4 hown hK hP 0 rfl rfl 10 (by decide) (hts (.fieldLink RX4 22 "TownLispModel" "parts" "[I") (by decide +kernel)) (fun _ h9 => h9) rfl dX4_doLeave_15 ?_
  refine lv_iload_n hx hb dX4_doLeave_18 rfl (lv_at hl 1 rfl) ?_
  refine va_iald hx hb hK hP 5 0 rfl rfl (hp) dX4_doLeave_19 ?_
  refine lv_istore_n (lv' := [(2, .int ((M_parts M) x1.toNatClampNeg)), (0, .ref (ad 0)), (1, .int x1)]) hx hb dX4_doLeave_20 rfl hl (by decide) rfl (fun ls hl => ?_)
  refine lv_aload_n hx hb dX4_doLeave_21 rfl (lv_at hl 1 rfl) ?_
  refine va_get (D := D) (ci := 4) (v := .ref (ad 5)) (C := RX4) (T := TX4) (N := 24) hx hb hts iw_X4_doLeave_4 hown hK hP 0 rfl rfl 10 (by decide) (hts (.fieldLink RX4 22 "TownLispModel" "parts" "[I") (by decide +kernel)) (fun _ h9 => h9) rfl dX4_doLeave_22 ?_
  refine lv_iload_n hx hb dX4_doLeave_25 rfl (lv_at hl 2 rfl) ?_
  refine lv_iconst (v := (0 : Int32)) hx hb dX4_doLeave_26 (by decide) ?_
  refine va_iast hx hb hK hP hD hS 5 0 rfl rfl (hp) dX4_doLeave_27 (fun H locs hP hD hS => ?_)
  have hP : va_P D vwCl (wM ad cI (M_parts' (M_isIn' M ((M_isIn M) &&& (((1 : Int32) <<< (x1 &&& 31)) ^^^ (-1 : Int32)))) (upd (M_parts M) x1.toNatClampNeg (0 : Int32)))) H := hP
  have hD : va_D A (wM ad cI (M_parts' (M_isIn' M ((M_isIn M) &&& (((1 : Int32) <<< (x1 &&& 31)) ^^^ (-1 : Int32)))) (upd (M_parts M) x1.toNatClampNeg (0 : Int32)))) := hD
  refine lv_aload_n hx hb dX4_doLeave_28 rfl (lv_at hl 1 rfl) ?_
  refine va_get (D := D) (ci := 4) (v := .int ((M_isIn M) &&& (((1 : Int32) <<< (x1 &&& 31)) ^^^ (-1 : Int32)))) (C := RX4) (T := TX4) (N := 24) hx hb hts iw_X4_doLeave_4 hown hK hP 0 rfl rfl 7 (by decide) (hts (.fieldLink RX4 96 "TownLispModel" "isIn" "I") (by decide +kernel)) (fun _ h9 => h9) rfl dX4_doLeave_29 ?_
  refine lv_if_ne (tgt := 46) hx hb dX4_doLeave_32 (by decide) (fun c_32 => ?_) (fun c_32 => ?_)
  · obtain ⟨r0, hr, hm⟩ := hex c_32
    refine lv_iconst (v := (0 : Int32)) hx hb dX4_doLeave_46 (by decide) ?_
    refine lv_istore_n (lv' := [(3, .int (0 : Int32)), (2, .int ((M_parts M) x1.toNatClampNeg)), (0, .ref (ad 0)), (1, .int x1)]) hx hb dX4_doLeave_47 rfl hl (by decide) rfl (fun ls hl => ?_)
    have hF : f_X4_doLeave M x1 = fL_X4_doLeave_48 M x1 (((M_parts M) x1.toNatClampNeg).toInt.toNat * 6 + 7) ((M_parts M) x1.toNatClampNeg) (0 : Int32) ((M_isIn M) &&& (((1 : Int32) <<< (x1 &&& 31)) ^^^ (-1 : Int32))) (upd (M_parts M) x1.toNatClampNeg (0 : Int32)) := by rw [f_X4_doLeave, if_neg c_32]
    rw [hF]
    exact L_X4_doLeave_48 l D cI cO tF ad M x1 hn hp hex B (r0) (hr) (((M_parts M) x1.toNatClampNeg).toInt.toNat * 6 + 7) ((M_parts M) x1.toNatClampNeg) (0 : Int32) ((M_isIn M) &&& (((1 : Int32) <<< (x1 &&& 31)) ^^^ (-1 : Int32))) (upd (M_parts M) x1.toNatClampNeg (0 : Int32)) (q_n0 hr) (hm) (by have h9 := cd_lt hn (q_n0 hr) hr; omega) _ _ hP hD hS ls (lv_sub hl [2, 3, 1, 0] rfl)
  · refine lv_aload_n hx hb dX4_doLeave_35 rfl (lv_at hl 1 rfl) ?_
    refine lv_dup hx hb dX4_doLeave_36 rfl ?_
    refine va_get (D := D) (ci := 4) (v := .int (M_tin M)) (C := RX4) (T := TX4) (N := 24) hx hb hts iw_X4_doLeave_4 hown hK hP 0 rfl rfl 6 (by decide) (hts (.fieldLink RX4 90 "TownLispModel" "tin" "I") (by decide +kernel)) (fun _ h9 => h9) rfl dX4_doLeave_37 ?_
    refine lv_iload_n hx hb dX4_doLeave_40 rfl (lv_at hl 0 rfl) ?_
    refine lv_iadd hx hb dX4_doLeave_41 ?_
    refine va_put (D := D) (ci := 4) (v := .int ((M_tin M) + ((M_parts M) x1.toNatClampNeg))) (ty := .int) (C := RX4) (T := TX4) (N := 24) hx hb hts iw_X4_doLeave_4 tyX4 tyX4_ok nmX4 hown hK hP hD hS 0 rfl rfl 6 (by decide) (hts (.fieldLink RX4 90 "TownLispModel" "tin" "I") (by decide +kernel)) (fun _ h9 => h9) rfl (by decide +kernel) rfl rfl (Nat.le_of_ble_eq_true rfl) dX4_doLeave_42 (fun H locs hP hD hS => ?_)
    have hP : va_P D vwCl (wM ad cI (M_tin' (M_parts' (M_isIn' M ((M_isIn M) &&& (((1 : Int32) <<< (x1 &&& 31)) ^^^ (-1 : Int32)))) (upd (M_parts M) x1.toNatClampNeg (0 : Int32))) ((M_tin M) + ((M_parts M) x1.toNatClampNeg)))) H := hP
    have hD : va_D A (wM ad cI (M_tin' (M_parts' (M_isIn' M ((M_isIn M) &&& (((1 : Int32) <<< (x1 &&& 31)) ^^^ (-1 : Int32)))) (upd (M_parts M) x1.toNatClampNeg (0 : Int32))) ((M_tin M) + ((M_parts M) x1.toNatClampNeg)))) := hD
    have hF : f_X4_doLeave M x1 = (M_tin' (M_parts' (M_isIn' M ((M_isIn M) &&& (((1 : Int32) <<< (x1 &&& 31)) ^^^ (-1 : Int32)))) (upd (M_parts M) x1.toNatClampNeg (0 : Int32))) ((M_tin M) + ((M_parts M) x1.toNatClampNeg))) := by rw [f_X4_doLeave, if_pos c_32]
    rw [hF]
    exact kr_v B hP hS rfl dX4_doLeave_45
def f_X4_leave (M : MS) (x1 : Int32) : Int32 × MS := (if (f_X4_isPerson M x1) = 0 then ((-1 : Int32), M) else (if (f_X4_isOf (M_isIn M) x1) = 0 then ((-3 : Int32), M) else (((M_parts M) x1.toNatClampNeg), (f_X4_doLeave M x1))))
theorem iw_X4_leave_4 : ∀ w ∈ wsX40, w ∈ wsX4_leave := fun _ h => List.mem_cons_of_mem _ (List.mem_append_right _ h)
set_option maxHeartbeats 4000000 in
set_option maxRecDepth 100000 in
theorem c_X4_leave (l : Launch) (D : va_G) (cI cO : ClassId) (tF : Nat) (ad : Nat → Nat) (M : MS) (x1 : Int32) (hn : (M_people M).toInt ≤ 6) (hso : so (M_isIn M) (M_people M)) : Ct l yX4_leave wsX4_leave ({ frames := 2, cells := 0, slots := 0, locals := 44 }) D cI cO tF [.ref (ad 0), .int x1] (wM ad cI M) (some (.int ((f_X4_leave M x1).1))) (wM ad cI ((f_X4_leave M x1).2)) := by
  refine Ct.of (cc := cX4_leave) (maxL := 3) (ret := (some .int)) (own := RX4) (by decide) rfl rfl (Nat.le_of_ble_eq_true rfl) ?_
  intro p e s m args below meth c A ls B hP hD hS hl
  obtain ⟨hx, hb, hret, hml, hts, hown, hlocks, hE, hA⟩ := id B
  have hK := hE.1
  have hl : lv_has ls 3 [(0, .ref (ad 0)), (1, .int x1)] := hl
  refine lv_aload_n hx hb dX4_leave_0 rfl (lv_at hl 0 rfl) ?_
  refine lv_iload_n hx hb dX4_leave_1 rfl (lv_at hl 1 rfl) ?_
  refine kc_V (As := [.int x1]) (rest := []) B (c_X4_isPerson l D cI cO tF ad M x1 ) (cwV 1 hts gX4_leave_X4_isPerson rfl rfl rfl (by decide +kernel) ⟨Nat.le_of_ble_eq_true rfl, Nat.le_of_ble_eq_true rfl⟩) hP hD hS [0, 1, 2, 3, 4, 5, 6, 7, 8, 9, 10, 11, 12] wM_subA (by decide) (w' := wM ad cI M) (wM_setA _) (wM_fst _) 0 4 rfl rfl rfl rfl hl.1 rfl (Nat.le_of_ble_eq_true rfl) dX4_leave_2 ⟨Nat.zero_le _, Nat.zero_le _⟩ (fun H locs hP hD hS => ?_)
  have hD : va_D A (wM ad cI M) := hD
  refine lv_if_ne (tgt := 10) hx hb dX4_leave_5 (by decide) (fun c_5 => ?_) (fun c_5 => ?_)
  · refine lv_aload_n hx hb dX4_leave_10 rfl (lv_at hl 0 rfl) ?_
    refine va_get (D := D) (ci := 4) (v := .int (M_isIn M)) (C := RX4) (T := TX4) (N := 24) hx hb hts iw_X4_leave_4 hown hK hP 0 rfl rfl 7 (by decide) (hts (.fieldLink RX4 96 "TownLispModel" "isIn" "I") (by decide +kernel)) (fun _ h9 => h9) rfl dX4_leave_11 ?_
    refine lv_iload_n hx hb dX4_leave_14 rfl (lv_at hl 1 rfl) ?_
    refine kc_S (As := [.int (M_isIn M), .int x1]) (rest := []) B (c_X4_isOf l D cI cO tF (M_isIn M) x1 ) (va_cwS 2 hts gX4_leave_X4_isOf rfl rfl rfl (by decide +kernel) ⟨Nat.le_of_ble_eq_true rfl, Nat.le_of_ble_eq_true rfl⟩) hP hD hS [] rfl (by decide) (w' := wM ad cI M) rfl rfl rfl hl.1 rfl (Nat.le_of_ble_eq_true rfl) dX4_leave_15 ⟨Nat.zero_le _, Nat.zero_le _⟩ (fun H locs hP hD hS => ?_)
    have hD : va_D A (wM ad cI M) := hD
    refine lv_if_ne (tgt := 24) hx hb dX4_leave_18 (by decide) (fun c_18 => ?_) (fun c_18 => ?_)
    · refine lv_aload_n hx hb dX4_leave_24 rfl (lv_at hl 0 rfl) ?_
      refine va_get (D := D) (ci := 4) (v := .ref (ad 5)) (C := RX4) (T := TX4) (N := 24) hx hb hts iw_X4_leave_4 hown hK hP 0 rfl rfl 10 (by decide) (hts (.fieldLink RX4 22 "TownLispModel" "parts" "[I") (by decide +kernel)) (fun _ h9 => h9) rfl dX4_leave_25 ?_
      refine lv_iload_n hx hb dX4_leave_28 rfl (lv_at hl 1 rfl) ?_
      refine va_iald hx hb hK hP 5 0 rfl rfl (mi_in hn c_5) dX4_leave_29 ?_
      refine lv_istore_n (lv' := [(2, .int ((M_parts M) x1.toNatClampNeg)), (0, .ref (ad 0)), (1, .int x1)]) hx hb dX4_leave_30 rfl hl (by decide) rfl (fun ls hl => ?_)
      refine lv_aload_n hx hb dX4_leave_31 rfl (lv_at hl 1 rfl) ?_
      refine lv_iload_n hx hb dX4_leave_32 rfl (lv_at hl 2 rfl) ?_
      refine kc_V (As := [.int x1]) (rest := []) B (c_X4_doLeave l D cI cO tF ad M x1 (hn) (mi_in hn c_5) (so_hex hso (mi_r c_5))) (cwV 1 hts gX4_leave_X4_doLeave rfl rfl rfl (by decide +kernel) ⟨Nat.le_of_ble_eq_true rfl, Nat.le_of_ble_eq_true rfl⟩) hP hD hS [0, 1, 2, 3, 4, 5, 6, 7, 8, 9, 10, 11, 12] wM_subA (by decide) (w' := wM ad cI (f_X4_doLeave M x1)) (wM_setA _) (wM_fst _) 0 4 rfl rfl rfl rfl hl.1 rfl (Nat.le_of_ble_eq_true rfl) dX4_leave_33 ⟨Nat.zero_le _, Nat.zero_le _⟩ (fun H locs hP hD hS => ?_)
      have hD : va_D A (wM ad cI (f_X4_doLeave M x1)) := hD
      refine lv_iload_n hx hb dX4_leave_36 rfl (lv_at hl 0 rfl) ?_
      have hF : f_X4_leave M x1 = (((M_parts M) x1.toNatClampNeg), (f_X4_doLeave M x1)) := by rw [f_X4_leave, if_neg c_5, if_neg c_18]
      rw [hF]
      exact kr_i B hP hS rfl rfl dX4_leave_37
    · refine lv_bipush (v := (-3 : Int32)) hx hb dX4_leave_21 (by decide) ?_
      have hF : f_X4_leave M x1 = ((-3 : Int32), M) := by rw [f_X4_leave, if_neg c_5, if_pos c_18]
      rw [hF]
      exact kr_i B hP hS rfl rfl dX4_leave_23
  · refine lv_iconst (v := (-1 : Int32)) hx hb dX4_leave_8 (by decide) ?_
    have hF : f_X4_leave M x1 = ((-1 : Int32), M) := by rw [f_X4_leave, if_pos c_5]
    rw [hF]
    exact kr_i B hP hS rfl rfl dX4_leave_9
def f_X4_come (M : MS) (x1 : Int32) : Int32 × MS := (if (f_X4_isPerson M x1) = 0 then ((-1 : Int32), M) else (if (f_X4_isOf (M_isIn M) x1) = 0 then ((f_X4_size ((M_isIn M) ||| ((1 : Int32) <<< (x1 &&& 31)))), (M_isIn' M ((M_isIn M) ||| ((1 : Int32) <<< (x1 &&& 31))))) else ((-3 : Int32), M)))
theorem iw_X4_come_4 : ∀ w ∈ wsX40, w ∈ wsX4_come := fun _ h => List.mem_cons_of_mem _ (List.mem_append_right _ h)
set_option maxHeartbeats 4000000 in
set_option maxRecDepth 100000 in
theorem c_X4_come (l : Launch) (D : va_G) (cI cO : ClassId) (tF : Nat) (ad : Nat → Nat) (M : MS) (x1 : Int32) : Ct l yX4_come wsX4_come ({ frames := 1, cells := 0, slots := 0, locals := 22 }) D cI cO tF [.ref (ad 0), .int x1] (wM ad cI M) (some (.int ((f_X4_come M x1).1))) (wM ad cI ((f_X4_come M x1).2)) := by
  refine Ct.of (cc := cX4_come) (maxL := 2) (ret := (some .int)) (own := RX4) (by decide) rfl rfl (Nat.le_of_ble_eq_true rfl) ?_
  intro p e s m args below meth c A ls B hP hD hS hl
  obtain ⟨hx, hb, hret, hml, hts, hown, hlocks, hE, hA⟩ := id B
  have hK := hE.1
  have hl : lv_has ls 2 [(0, .ref (ad 0)), (1, .int x1)] := hl
  refine lv_aload_n hx hb dX4_come_0 rfl (lv_at hl 0 rfl) ?_
  refine lv_iload_n hx hb dX4_come_1 rfl (lv_at hl 1 rfl) ?_
  refine kc_V (As := [.int x1]) (rest := []) B (c_X4_isPerson l D cI cO tF ad M x1 ) (cwV 1 hts gX4_come_X4_isPerson rfl rfl rfl (by decide +kernel) ⟨Nat.le_of_ble_eq_true rfl, Nat.le_of_ble_eq_true rfl⟩) hP hD hS [0, 1, 2, 3, 4, 5, 6, 7, 8, 9, 10, 11, 12] wM_subA (by decide) (w' := wM ad cI M) (wM_setA _) (wM_fst _) 0 4 rfl rfl rfl rfl hl.1 rfl (Nat.le_of_ble_eq_true rfl) dX4_come_2 ⟨Nat.zero_le _, Nat.zero_le _⟩ (fun H locs hP hD hS => ?_)
  have hD : va_D A (wM ad cI M) := hD
  refine lv_if_ne (tgt := 10) hx hb dX4_come_5 (by decide) (fun c_5 => ?_) (fun c_5 => ?_)
  · refine lv_aload_n hx hb dX4_come_10 rfl (lv_at hl 0 rfl) ?_
    refine va_get (D := D) (ci := 4) (v := .int (M_isIn M)) (C := RX4) (T := TX4) (N := 24) hx hb hts iw_X4_come_4 hown hK hP 0 rfl rfl 7 (by decide) (hts (.fieldLink RX4 96 "TownLispModel" "isIn" "I") (by decide +kernel)) (fun _ h9 => h9) rfl dX4_come_11 ?_
    refine lv_iload_n hx hb dX4_come_14 rfl (lv_at hl 1 rfl) ?_
    refine kc_S (As := [.int (M_isIn M), .int x1]) (rest := []) B (c_X4_isOf l D cI cO tF (M_isIn M) x1 ) (va_cwS 2 hts gX4_come_X4_isOf rfl rfl rfl (by decide +kernel) ⟨Nat.le_of_ble_eq_true rfl, Nat.le_of_ble_eq_true rfl⟩) hP hD hS [] rfl (by decide) (w' := wM ad cI M) rfl rfl rfl hl.1 rfl (Nat.le_of_ble_eq_true rfl) dX4_come_15 ⟨Nat.zero_le _, Nat.zero_le _⟩ (fun H locs hP hD hS => ?_)
    have hD : va_D A (wM ad cI M) := hD
    refine lv_if_eq (tgt := 24) hx hb dX4_come_18 (by decide) (fun c_18 => ?_) (fun c_18 => ?_)
    · refine lv_aload_n hx hb dX4_come_24 rfl (lv_at hl 0 rfl) ?_
      refine lv_dup hx hb dX4_come_25 rfl ?_
      refine va_get (D := D) (ci := 4) (v := .int (M_isIn M)) (C := RX4) (T := TX4) (N := 24) hx hb hts iw_X4_come_4 hown hK hP 0 rfl rfl 7 (by decide) (hts (.fieldLink RX4 96 "TownLispModel" "isIn" "I") (by decide +kernel)) (fun _ h9 => h9) rfl dX4_come_26 ?_
      refine lv_iconst (v := (1 : Int32)) hx hb dX4_come_29 (by decide) ?_
      refine lv_iload_n hx hb dX4_come_30 rfl (lv_at hl 1 rfl) ?_
      refine lv_ishl hx hb dX4_come_31 ?_
      refine lv_ior hx hb dX4_come_32 ?_
      refine va_put (D := D) (ci := 4) (v := .int ((M_isIn M) ||| ((1 : Int32) <<< (x1 &&& 31)))) (ty := .int) (C := RX4) (T := TX4) (N := 24) hx hb hts iw_X4_come_4 tyX4 tyX4_ok nmX4 hown hK hP hD hS 0 rfl rfl 7 (by decide) (hts (.fieldLink RX4 96 "TownLispModel" "isIn" "I") (by decide +kernel)) (fun _ h9 => h9) rfl (by decide +kernel) rfl rfl (Nat.le_of_ble_eq_true rfl) dX4_come_33 (fun H locs hP hD hS => ?_)
      have hP : va_P D vwCl (wM ad cI (M_isIn' M ((M_isIn M) ||| ((1 : Int32) <<< (x1 &&& 31))))) H := hP
      have hD : va_D A (wM ad cI (M_isIn' M ((M_isIn M) ||| ((1 : Int32) <<< (x1 &&& 31))))) := hD
      refine lv_aload_n hx hb dX4_come_36 rfl (lv_at hl 0 rfl) ?_
      refine va_get (D := D) (ci := 4) (v := .int ((M_isIn M) ||| ((1 : Int32) <<< (x1 &&& 31)))) (C := RX4) (T := TX4) (N := 24) hx hb hts iw_X4_come_4 hown hK hP 0 rfl rfl 7 (by decide) (hts (.fieldLink RX4 96 "TownLispModel" "isIn" "I") (by decide +kernel)) (fun _ h9 => h9) rfl dX4_come_37 ?_
      refine kc_S (As := [.int ((M_isIn M) ||| ((1 : Int32) <<< (x1 &&& 31)))]) (rest := []) B (c_X4_size l D cI cO tF ((M_isIn M) ||| ((1 : Int32) <<< (x1 &&& 31))) ) (va_cwS 1 hts gX4_come_X4_size rfl rfl rfl (by decide +kernel) ⟨Nat.le_of_ble_eq_true rfl, Nat.le_of_ble_eq_true rfl⟩) hP hD hS [] rfl (by decide) (w' := wM ad cI (M_isIn' M ((M_isIn M) ||| ((1 : Int32) <<< (x1 &&& 31))))) rfl rfl rfl hl.1 rfl (Nat.le_of_ble_eq_true rfl) dX4_come_40 ⟨Nat.zero_le _, Nat.zero_le _⟩ (fun H locs hP hD hS => ?_)
      have hD : va_D A (wM ad cI (M_isIn' M ((M_isIn M) ||| ((1 : Int32) <<< (x1 &&& 31))))) := hD
      have hF : f_X4_come M x1 = ((f_X4_size ((M_isIn M) ||| ((1 : Int32) <<< (x1 &&& 31)))), (M_isIn' M ((M_isIn M) ||| ((1 : Int32) <<< (x1 &&& 31))))) := by rw [f_X4_come, if_neg c_5, if_pos c_18]
      rw [hF]
      exact kr_i B hP hS rfl rfl dX4_come_43
    · refine lv_bipush (v := (-3 : Int32)) hx hb dX4_come_21 (by decide) ?_
      have hF : f_X4_come M x1 = ((-3 : Int32), M) := by rw [f_X4_come, if_neg c_5, if_neg c_18]
      rw [hF]
      exact kr_i B hP hS rfl rfl dX4_come_23
  · refine lv_iconst (v := (-1 : Int32)) hx hb dX4_come_8 (by decide) ?_
    have hF : f_X4_come M x1 = ((-1 : Int32), M) := by rw [f_X4_come, if_pos c_5]
    rw [hF]
    exact kr_i B hP hS rfl rfl dX4_come_9
def f_X4_gather (M : MS) (x1 : Int32) : Int32 × MS := (if (f_X4_isPerson M x1) = 0 then ((-1 : Int32), M) else (if (f_X4_isOf (M_isIn M) x1) = 0 then ((-3 : Int32), M) else ((f_X4_doGather M x1).1, (f_X4_doGather M x1).2)))
theorem iw_X4_gather_4 : ∀ w ∈ wsX40, w ∈ wsX4_gather := fun _ h => List.mem_cons_of_mem _ (List.mem_append_right _ h)
set_option maxHeartbeats 4000000 in
set_option maxRecDepth 100000 in
theorem c_X4_gather (l : Launch) (D : va_G) (cI cO : ClassId) (tF : Nat) (ad : Nat → Nat) (M : MS) (x1 : Int32) (hn : (M_people M).toInt ≤ 6) : Ct l yX4_gather wsX4_gather ({ frames := 2, cells := 0, slots := 0, locals := 44 }) D cI cO tF [.ref (ad 0), .int x1] (wM ad cI M) (some (.int ((f_X4_gather M x1).1))) (wM ad cI ((f_X4_gather M x1).2)) := by
  refine Ct.of (cc := cX4_gather) (maxL := 2) (ret := (some .int)) (own := RX4) (by decide) rfl rfl (Nat.le_of_ble_eq_true rfl) ?_
  intro p e s m args below meth c A ls B hP hD hS hl
  obtain ⟨hx, hb, hret, hml, hts, hown, hlocks, hE, hA⟩ := id B
  have hK := hE.1
  have hl : lv_has ls 2 [(0, .ref (ad 0)), (1, .int x1)] := hl
  refine lv_aload_n hx hb dX4_gather_0 rfl (lv_at hl 0 rfl) ?_
  refine lv_iload_n hx hb dX4_gather_1 rfl (lv_at hl 1 rfl) ?_
  refine kc_V (As := [.int x1]) (rest := []) B (c_X4_isPerson l D cI cO tF ad M x1 ) (cwV 1 hts gX4_gather_X4_isPerson rfl rfl rfl (by decide +kernel) ⟨Nat.le_of_ble_eq_true rfl, Nat.le_of_ble_eq_true rfl⟩) hP hD hS [0, 1, 2, 3, 4, 5, 6, 7, 8, 9, 10, 11, 12] wM_subA (by decide) (w' := wM ad cI M) (wM_setA _) (wM_fst _) 0 4 rfl rfl rfl rfl hl.1 rfl (Nat.le_of_ble_eq_true rfl) dX4_gather_2 ⟨Nat.zero_le _, Nat.zero_le _⟩ (fun H locs hP hD hS => ?_)
  have hD : va_D A (wM ad cI M) := hD
  refine lv_if_ne (tgt := 10) hx hb dX4_gather_5 (by decide) (fun c_5 => ?_) (fun c_5 => ?_)
  · refine lv_aload_n hx hb dX4_gather_10 rfl (lv_at hl 0 rfl) ?_
    refine va_get (D := D) (ci := 4) (v := .int (M_isIn M)) (C := RX4) (T := TX4) (N := 24) hx hb hts iw_X4_gather_4 hown hK hP 0 rfl rfl 7 (by decide) (hts (.fieldLink RX4 96 "TownLispModel" "isIn" "I") (by decide +kernel)) (fun _ h9 => h9) rfl dX4_gather_11 ?_
    refine lv_iload_n hx hb dX4_gather_14 rfl (lv_at hl 1 rfl) ?_
    refine kc_S (As := [.int (M_isIn M), .int x1]) (rest := []) B (c_X4_isOf l D cI cO tF (M_isIn M) x1 ) (va_cwS 2 hts gX4_gather_X4_isOf rfl rfl rfl (by decide +kernel) ⟨Nat.le_of_ble_eq_true rfl, Nat.le_of_ble_eq_true rfl⟩) hP hD hS [] rfl (by decide) (w' := wM ad cI M) rfl rfl rfl hl.1 rfl (Nat.le_of_ble_eq_true rfl) dX4_gather_15 ⟨Nat.zero_le _, Nat.zero_le _⟩ (fun H locs hP hD hS => ?_)
    have hD : va_D A (wM ad cI M) := hD
    refine lv_if_eq (tgt := 29) hx hb dX4_gather_18 (by decide) (fun c_18 => ?_) (fun c_18 => ?_)
    · refine lv_bipush (v := (-3 : Int32)) hx hb dX4_gather_29 (by decide) ?_
      have hF : f_X4_gather M x1 = ((-3 : Int32), M) := by rw [f_X4_gather, if_neg c_5, if_pos c_18]
      rw [hF]
      exact kr_i B hP hS rfl rfl dX4_gather_31
    · refine lv_aload_n hx hb dX4_gather_21 rfl (lv_at hl 0 rfl) ?_
      refine lv_iload_n hx hb dX4_gather_22 rfl (lv_at hl 1 rfl) ?_
      refine kc_V (As := [.int x1]) (rest := []) B (c_X4_doGather l D cI cO tF ad M x1 (hn) (mi_in hn c_5)) (cwV 1 hts gX4_gather_X4_doGather rfl rfl rfl (by decide +kernel) ⟨Nat.le_of_ble_eq_true rfl, Nat.le_of_ble_eq_true rfl⟩) hP hD hS [0, 1, 2, 3, 4, 5, 6, 7, 8, 9, 10, 11, 12] wM_subA (by decide) (w' := wM ad cI ((f_X4_doGather M x1).2)) (wM_setA _) (wM_fst _) 0 4 rfl rfl rfl rfl hl.1 rfl (Nat.le_of_ble_eq_true rfl) dX4_gather_23 ⟨Nat.zero_le _, Nat.zero_le _⟩ (fun H locs hP hD hS => ?_)
      have hD : va_D A (wM ad cI ((f_X4_doGather M x1).2)) := hD
      refine lv_goto (tgt := 31) hx hb dX4_gather_26 (by decide) ?_
      have hF : f_X4_gather M x1 = ((f_X4_doGather M x1).1, (f_X4_doGather M x1).2) := by rw [f_X4_gather, if_neg c_5, if_neg c_18]
      rw [hF]
      exact kr_i B hP hS rfl rfl dX4_gather_31
  · refine lv_iconst (v := (-1 : Int32)) hx hb dX4_gather_8 (by decide) ?_
    have hF : f_X4_gather M x1 = ((-1 : Int32), M) := by rw [f_X4_gather, if_pos c_5]
    rw [hF]
    exact kr_i B hP hS rfl rfl dX4_gather_9
def f_X4_pack (M : MS) (x1 : Int32) (x2 : Int32) : Int32 × MS := (if (f_X4_isPerson M x1) = 0 then ((-1 : Int32), M) else (if (f_X4_within x2 (1 : Int32) (99 : Int32)) = 0 then ((-2 : Int32), M) else (if x2 ≤ ((M_parts M) x1.toNatClampNeg) then (((M_tin M) + x2), (M_tin' (M_parts' M (upd (M_parts M) x1.toNatClampNeg (((M_parts M) x1.toNatClampNeg) - x2))) ((M_tin M) + x2))) else ((-3 : Int32), M))))
theorem iw_X4_pack_4 : ∀ w ∈ wsX40, w ∈ wsX4_pack := fun _ h => List.mem_cons_of_mem _ (List.mem_append_right _ h)
set_option maxHeartbeats 4000000 in
set_option maxRecDepth 100000 in
theorem c_X4_pack (l : Launch) (D : va_G) (cI cO : ClassId) (tF : Nat) (ad : Nat → Nat) (M : MS) (x1 : Int32) (x2 : Int32) (hn : (M_people M).toInt ≤ 6) : Ct l yX4_pack wsX4_pack ({ frames := 1, cells := 0, slots := 0, locals := 22 }) D cI cO tF [.ref (ad 0), .int x1, .int x2] (wM ad cI M) (some (.int ((f_X4_pack M x1 x2).1))) (wM ad cI ((f_X4_pack M x1 x2).2)) := by
  refine Ct.of (cc := cX4_pack) (maxL := 3) (ret := (some .int)) (own := RX4) (by decide) rfl rfl (Nat.le_of_ble_eq_true rfl) ?_
  intro p e s m args below meth c A ls B hP hD hS hl
  obtain ⟨hx, hb, hret, hml, hts, hown, hlocks, hE, hA⟩ := id B
  have hK := hE.1
  have hl : lv_has ls 3 [(0, .ref (ad 0)), (1, .int x1), (2, .int x2)] := hl
  refine lv_aload_n hx hb dX4_pack_0 rfl (lv_at hl 0 rfl) ?_
  refine lv_iload_n hx hb dX4_pack_1 rfl (lv_at hl 1 rfl) ?_
  refine kc_V (As := [.int x1]) (rest := []) B (c_X4_isPerson l D cI cO tF ad M x1 ) (cwV 1 hts gX4_pack_X4_isPerson rfl rfl rfl (by decide +kernel) ⟨Nat.le_of_ble_eq_true rfl, Nat.le_of_ble_eq_true rfl⟩) hP hD hS [0, 1, 2, 3, 4, 5, 6, 7, 8, 9, 10, 11, 12] wM_subA (by decide) (w' := wM ad cI M) (wM_setA _) (wM_fst _) 0 4 rfl rfl rfl rfl hl.1 rfl (Nat.le_of_ble_eq_true rfl) dX4_pack_2 ⟨Nat.zero_le _, Nat.zero_le _⟩ (fun H locs hP hD hS => ?_)
  have hD : va_D A (wM ad cI M) := hD
  refine lv_if_ne (tgt := 10) hx hb dX4_pack_5 (by decide) (fun c_5 => ?_) (fun c_5 => ?_)
  · refine lv_iload_n hx hb dX4_pack_10 rfl (lv_at hl 2 rfl) ?_
    refine lv_iconst (v := (1 : Int32)) hx hb dX4_pack_11 (by decide) ?_
    refine lv_bipush (v := (99 : Int32)) hx hb dX4_pack_12 (by decide) ?_
    refine kc_S (As := [.int x2, .int (1 : Int32), .int (99 : Int32)]) (rest := []) B (c_X4_within l D cI cO tF x2 (1 : Int32) (99 : Int32) ) (va_cwS 3 hts gX4_pack_X4_within rfl rfl rfl (by decide +kernel) ⟨Nat.le_of_ble_eq_true rfl, Nat.le_of_ble_eq_true rfl⟩) hP hD hS [] rfl (by decide) (w' := wM ad cI M) rfl rfl rfl hl.1 rfl (Nat.le_of_ble_eq_true rfl) dX4_pack_14 ⟨Nat.zero_le _, Nat.zero_le _⟩ (fun H locs hP hD hS => ?_)
    have hD : va_D A (wM ad cI M) := hD
    refine lv_if_ne (tgt := 23) hx hb dX4_pack_17 (by decide) (fun c_17 => ?_) (fun c_17 => ?_)
    · refine lv_aload_n hx hb dX4_pack_23 rfl (lv_at hl 0 rfl) ?_
      refine va_get (D := D) (ci := 4) (v := .ref (ad 5)) (C := RX4) (T := TX4) (N := 24) hx hb hts iw_X4_pack_4 hown hK hP 0 rfl rfl 10 (by decide) (hts (.fieldLink RX4 22 "TownLispModel" "parts" "[I") (by decide +kernel)) (fun _ h9 => h9) rfl dX4_pack_24 ?_
      refine lv_iload_n hx hb dX4_pack_27 rfl (lv_at hl 1 rfl) ?_
      refine va_iald hx hb hK hP 5 0 rfl rfl (mi_in hn c_5) dX4_pack_28 ?_
      refine lv_iload_n hx hb dX4_pack_29 rfl (lv_at hl 2 rfl) ?_
      refine lv_icmp_ge (tgt := 36) hx hb dX4_pack_30 (by decide) (fun c_30 => ?_) (fun c_30 => ?_)
      · refine lv_aload_n hx hb dX4_pack_36 rfl (lv_at hl 0 rfl) ?_
        refine va_get (D := D) (ci := 4) (v := .ref (ad 5)) (C := RX4) (T := TX4) (N := 24) hx hb hts iw_X4_pack_4 hown hK hP 0 rfl rfl 10 (by decide) (hts (.fieldLink RX4 22 "TownLispModel" "parts" "[I") (by decide +kernel)) (fun _ h9 => h9) rfl dX4_pack_37 ?_
        refine lv_iload_n hx hb dX4_pack_40 rfl (lv_at hl 1 rfl) ?_
        refine lv_dup2_11 hx hb dX4_pack_41 rfl rfl ?_
        refine va_iald hx hb hK hP 5 0 rfl rfl (mi_in hn c_5) dX4_pack_42 ?_
        refine lv_iload_n hx hb dX4_pack_43 rfl (lv_at hl 2 rfl) ?_
        refine lv_isub hx hb dX4_pack_44 ?_
        refine va_iast hx hb hK hP hD hS 5 0 rfl rfl (mi_in hn c_5) dX4_pack_45 (fun H locs hP hD hS => ?_)
        have hP : va_P D vwCl (wM ad cI (M_parts' M (upd (M_parts M) x1.toNatClampNeg (((M_parts M) x1.toNatClampNeg) - x2)))) H := hP
        have hD : va_D A (wM ad cI (M_parts' M (upd (M_parts M) x1.toNatClampNeg (((M_parts M) x1.toNatClampNeg) - x2)))) := hD
        refine lv_aload_n hx hb dX4_pack_46 rfl (lv_at hl 0 rfl) ?_
        refine lv_dup hx hb dX4_pack_47 rfl ?_
        refine va_get (D := D) (ci := 4) (v := .int (M_tin M)) (C := RX4) (T := TX4) (N := 24) hx hb hts iw_X4_pack_4 hown hK hP 0 rfl rfl 6 (by decide) (hts (.fieldLink RX4 90 "TownLispModel" "tin" "I") (by decide +kernel)) (fun _ h9 => h9) rfl dX4_pack_48 ?_
        refine lv_iload_n hx hb dX4_pack_51 rfl (lv_at hl 2 rfl) ?_
        refine lv_iadd hx hb dX4_pack_52 ?_
        refine va_put (D := D) (ci := 4) (v := .int ((M_tin M) + x2)) (ty := .int) (C := RX4) (T := TX4) (N := 24) hx hb hts iw_X4_pack_4 tyX4 tyX4_ok nmX4 hown hK hP hD hS 0 rfl rfl 6 (by decide) (hts (.fieldLink RX4 90 "TownLispModel" "tin" "I") (by decide +kernel)) (fun _ h9 => h9) rfl (by decide +kernel) rfl rfl (Nat.le_of_ble_eq_true rfl) dX4_pack_53 (fun H locs hP hD hS => ?_)
        have hP : va_P D vwCl (wM ad cI (M_tin' (M_parts' M (upd (M_parts M) x1.toNatClampNeg (((M_parts M) x1.toNatClampNeg) - x2))) ((M_tin M) + x2))) H := hP
        have hD : va_D A (wM ad cI (M_tin' (M_parts' M (upd (M_parts M) x1.toNatClampNeg (((M_parts M) x1.toNatClampNeg) - x2))) ((M_tin M) + x2))) := hD
        refine lv_aload_n hx hb dX4_pack_56 rfl (lv_at hl 0 rfl) ?_
        refine va_get (D := D) (ci := 4) (v := .int ((M_tin M) + x2)) (C := RX4) (T := TX4) (N := 24) hx hb hts iw_X4_pack_4 hown hK hP 0 rfl rfl 6 (by decide) (hts (.fieldLink RX4 90 "TownLispModel" "tin" "I") (by decide +kernel)) (fun _ h9 => h9) rfl dX4_pack_57 ?_
        have hF : f_X4_pack M x1 x2 = (((M_tin M) + x2), (M_tin' (M_parts' M (upd (M_parts M) x1.toNatClampNeg (((M_parts M) x1.toNatClampNeg) - x2))) ((M_tin M) + x2))) := by rw [f_X4_pack, if_neg c_5, if_neg c_17, if_pos c_30]
        rw [hF]
        exact kr_i B hP hS rfl rfl dX4_pack_60
      · refine lv_bipush (v := (-3 : Int32)) hx hb dX4_pack_33 (by decide) ?_
        have hF : f_X4_pack M x1 x2 = ((-3 : Int32), M) := by rw [f_X4_pack, if_neg c_5, if_neg c_17, if_neg c_30]
        rw [hF]
        exact kr_i B hP hS rfl rfl dX4_pack_35
    · refine lv_bipush (v := (-2 : Int32)) hx hb dX4_pack_20 (by decide) ?_
      have hF : f_X4_pack M x1 x2 = ((-2 : Int32), M) := by rw [f_X4_pack, if_neg c_5, if_pos c_17]
      rw [hF]
      exact kr_i B hP hS rfl rfl dX4_pack_22
  · refine lv_iconst (v := (-1 : Int32)) hx hb dX4_pack_8 (by decide) ?_
    have hF : f_X4_pack M x1 x2 = ((-1 : Int32), M) := by rw [f_X4_pack, if_pos c_5]
    rw [hF]
    exact kr_i B hP hS rfl rfl dX4_pack_9
def f_X4_open (M : MS) (x1 : Int32) : Int32 × MS := (if (f_X4_isPerson M x1) = 0 then ((-1 : Int32), M) else (if (f_X4_isOf (M_isIn M) x1) = 0 then ((-3 : Int32), M) else (if (M_tin M) ≤ 0 then ((-3 : Int32), M) else ((f_X4_doOpen M x1).1, (f_X4_doOpen M x1).2))))
theorem iw_X4_open_4 : ∀ w ∈ wsX40, w ∈ wsX4_open := fun _ h => List.mem_cons_of_mem _ (List.mem_append_right _ h)
set_option maxHeartbeats 4000000 in
set_option maxRecDepth 100000 in
theorem c_X4_open (l : Launch) (D : va_G) (cI cO : ClassId) (tF : Nat) (ad : Nat → Nat) (M : MS) (x1 : Int32) (hn : (M_people M).toInt ≤ 6) : Ct l yX4_open wsX4_open ({ frames := 1, cells := 0, slots := 0, locals := 22 }) D cI cO tF [.ref (ad 0), .int x1] (wM ad cI M) (some (.int ((f_X4_open M x1).1))) (wM ad cI ((f_X4_open M x1).2)) := by
  refine Ct.of (cc := cX4_open) (maxL := 2) (ret := (some .int)) (own := RX4) (by decide) rfl rfl (Nat.le_of_ble_eq_true rfl) ?_
  intro p e s m args below meth c A ls B hP hD hS hl
  obtain ⟨hx, hb, hret, hml, hts, hown, hlocks, hE, hA⟩ := id B
  have hK := hE.1
  have hl : lv_has ls 2 [(0, .ref (ad 0)), (1, .int x1)] := hl
  refine lv_aload_n hx hb dX4_open_0 rfl (lv_at hl 0 rfl) ?_
  refine lv_iload_n hx hb dX4_open_1 rfl (lv_at hl 1 rfl) ?_
  refine kc_V (As := [.int x1]) (rest := []) B (c_X4_isPerson l D cI cO tF ad M x1 ) (cwV 1 hts gX4_open_X4_isPerson rfl rfl rfl (by decide +kernel) ⟨Nat.le_of_ble_eq_true rfl, Nat.le_of_ble_eq_true rfl⟩) hP hD hS [0, 1, 2, 3, 4, 5, 6, 7, 8, 9, 10, 11, 12] wM_subA (by decide) (w' := wM ad cI M) (wM_setA _) (wM_fst _) 0 4 rfl rfl rfl rfl hl.1 rfl (Nat.le_of_ble_eq_true rfl) dX4_open_2 ⟨Nat.zero_le _, Nat.zero_le _⟩ (fun H locs hP hD hS => ?_)
  have hD : va_D A (wM ad cI M) := hD
  refine lv_if_ne (tgt := 10) hx hb dX4_open_5 (by decide) (fun c_5 => ?_) (fun c_5 => ?_)
  · refine lv_aload_n hx hb dX4_open_10 rfl (lv_at hl 0 rfl) ?_
    refine va_get (D := D) (ci := 4) (v := .int (M_isIn M)) (C := RX4) (T := TX4) (N := 24) hx hb hts iw_X4_open_4 hown hK hP 0 rfl rfl 7 (by decide) (hts (.fieldLink RX4 96 "TownLispModel" "isIn" "I") (by decide +kernel)) (fun _ h9 => h9) rfl dX4_open_11 ?_
    refine lv_iload_n hx hb dX4_open_14 rfl (lv_at hl 1 rfl) ?_
    refine kc_S (As := [.int (M_isIn M), .int x1]) (rest := []) B (c_X4_isOf l D cI cO tF (M_isIn M) x1 ) (va_cwS 2 hts gX4_open_X4_isOf rfl rfl rfl (by decide +kernel) ⟨Nat.le_of_ble_eq_true rfl, Nat.le_of_ble_eq_true rfl⟩) hP hD hS [] rfl (by decide) (w' := wM ad cI M) rfl rfl rfl hl.1 rfl (Nat.le_of_ble_eq_true rfl) dX4_open_15 ⟨Nat.zero_le _, Nat.zero_le _⟩ (fun H locs hP hD hS => ?_)
    have hD : va_D A (wM ad cI M) := hD
    refine lv_if_eq (tgt := 36) hx hb dX4_open_18 (by decide) (fun c_18 => ?_) (fun c_18 => ?_)
    · refine lv_bipush (v := (-3 : Int32)) hx hb dX4_open_36 (by decide) ?_
      have hF : f_X4_open M x1 = ((-3 : Int32), M) := by rw [f_X4_open, if_neg c_5, if_pos c_18]
      rw [hF]
      exact kr_i B hP hS rfl rfl dX4_open_38
    · refine lv_aload_n hx hb dX4_open_21 rfl (lv_at hl 0 rfl) ?_
      refine va_get (D := D) (ci := 4) (v := .int (M_tin M)) (C := RX4) (T := TX4) (N := 24) hx hb hts iw_X4_open_4 hown hK hP 0 rfl rfl 6 (by decide) (hts (.fieldLink RX4 90 "TownLispModel" "tin" "I") (by decide +kernel)) (fun _ h9 => h9) rfl dX4_open_22 ?_
      refine lv_if_le (tgt := 36) hx hb dX4_open_25 (by decide) (fun c_25 => ?_) (fun c_25 => ?_)
      · refine lv_bipush (v := (-3 : Int32)) hx hb dX4_open_36 (by decide) ?_
        have hF : f_X4_open M x1 = ((-3 : Int32), M) := by rw [f_X4_open, if_neg c_5, if_neg c_18, if_pos c_25]
        rw [hF]
        exact kr_i B hP hS rfl rfl dX4_open_38
      · refine lv_aload_n hx hb dX4_open_28 rfl (lv_at hl 0 rfl) ?_
        refine lv_iload_n hx hb dX4_open_29 rfl (lv_at hl 1 rfl) ?_
        refine kc_V (As := [.int x1]) (rest := []) B (c_X4_doOpen l D cI cO tF ad M x1 (mi_in hn c_5)) (cwV 1 hts gX4_open_X4_doOpen rfl rfl rfl (by decide +kernel) ⟨Nat.le_of_ble_eq_true rfl, Nat.le_of_ble_eq_true rfl⟩) hP hD hS [0, 1, 2, 3, 4, 5, 6, 7, 8, 9, 10, 11, 12] wM_subA (by decide) (w' := wM ad cI ((f_X4_doOpen M x1).2)) (wM_setA _) (wM_fst _) 0 4 rfl rfl rfl rfl hl.1 rfl (Nat.le_of_ble_eq_true rfl) dX4_open_30 ⟨Nat.zero_le _, Nat.zero_le _⟩ (fun H locs hP hD hS => ?_)
        have hD : va_D A (wM ad cI ((f_X4_doOpen M x1).2)) := hD
        refine lv_goto (tgt := 38) hx hb dX4_open_33 (by decide) ?_
        have hF : f_X4_open M x1 = ((f_X4_doOpen M x1).1, (f_X4_doOpen M x1).2) := by rw [f_X4_open, if_neg c_5, if_neg c_18, if_neg c_25]
        rw [hF]
        exact kr_i B hP hS rfl rfl dX4_open_38
  · refine lv_iconst (v := (-1 : Int32)) hx hb dX4_open_8 (by decide) ?_
    have hF : f_X4_open M x1 = ((-1 : Int32), M) := by rw [f_X4_open, if_pos c_5]
    rw [hF]
    exact kr_i B hP hS rfl rfl dX4_open_9
def f_X4_reading (M : MS) (x1 : Int32) (x2 : Int32) (x3 : Int32) : Int32 × MS := (if (f_X4_isPerson M x1) = 0 then ((-1 : Int32), M) else (if (f_X4_within x2 (0 : Int32) (300 : Int32)) = 0 then ((-2 : Int32), M) else (if (f_X4_within x3 (0 : Int32) (600 : Int32)) = 0 then ((-2 : Int32), M) else (if (M_readings M) = (8 : Int32) then ((-4 : Int32), M) else ((((M_readings M) + (1 : Int32)) - (1 : Int32)), (M_readings' (M_readSaid' (M_readParts' (M_readWho' M (upd (M_readWho M) (M_readings M).toNatClampNeg x1)) (upd (M_readParts M) (M_readings M).toNatClampNeg x2)) (upd (M_readSaid M) (M_readings M).toNatClampNeg x3)) ((M_readings M) + (1 : Int32))))))))
theorem iw_X4_reading_4 : ∀ w ∈ wsX40, w ∈ wsX4_reading := fun _ h => List.mem_cons_of_mem _ (List.mem_append_right _ h)
set_option maxHeartbeats 4000000 in
set_option maxRecDepth 100000 in
theorem c_X4_reading (l : Launch) (D : va_G) (cI cO : ClassId) (tF : Nat) (ad : Nat → Nat) (M : MS) (x1 : Int32) (x2 : Int32) (x3 : Int32) (hr : 0 ≤ (M_readings M).toInt ∧ (M_readings M).toInt ≤ 8) : Ct l yX4_reading wsX4_reading ({ frames := 1, cells := 0, slots := 0, locals := 22 }) D cI cO tF [.ref (ad 0), .int x1, .int x2, .int x3] (wM ad cI M) (some (.int ((f_X4_reading M x1 x2 x3).1))) (wM ad cI ((f_X4_reading M x1 x2 x3).2)) := by
  refine Ct.of (cc := cX4_reading) (maxL := 4) (ret := (some .int)) (own := RX4) (by decide) rfl rfl (Nat.le_of_ble_eq_true rfl) ?_
  intro p e s m args below meth c A ls B hP hD hS hl
  obtain ⟨hx, hb, hret, hml, hts, hown, hlocks, hE, hA⟩ := id B
  have hK := hE.1
  have hl : lv_has ls 4 [(0, .ref (ad 0)), (1, .int x1), (2, .int x2), (3, .int x3)] := hl
  refine lv_aload_n hx hb dX4_reading_0 rfl (lv_at hl 0 rfl) ?_
  refine lv_iload_n hx hb dX4_reading_1 rfl (lv_at hl 1 rfl) ?_
  refine kc_V (As := [.int x1]) (rest := []) B (c_X4_isPerson l D cI cO tF ad M x1 ) (cwV 1 hts gX4_reading_X4_isPerson rfl rfl rfl (by decide +kernel) ⟨Nat.le_of_ble_eq_true rfl, Nat.le_of_ble_eq_true rfl⟩) hP hD hS [0, 1, 2, 3, 4, 5, 6, 7, 8, 9, 10, 11, 12] wM_subA (by decide) (w' := wM ad cI M) (wM_setA _) (wM_fst _) 0 4 rfl rfl rfl rfl hl.1 rfl (Nat.le_of_ble_eq_true rfl) dX4_reading_2 ⟨Nat.zero_le _, Nat.zero_le _⟩ (fun H locs hP hD hS => ?_)
  have hD : va_D A (wM ad cI M) := hD
  refine lv_if_ne (tgt := 10) hx hb dX4_reading_5 (by decide) (fun c_5 => ?_) (fun c_5 => ?_)
  · refine lv_iload_n hx hb dX4_reading_10 rfl (lv_at hl 2 rfl) ?_
    refine lv_iconst (v := (0 : Int32)) hx hb dX4_reading_11 (by decide) ?_
    refine lv_sipush (v := (300 : Int32)) hx hb dX4_reading_12 (by decide) ?_
    refine kc_S (As := [.int x2, .int (0 : Int32), .int (300 : Int32)]) (rest := []) B (c_X4_within l D cI cO tF x2 (0 : Int32) (300 : Int32) ) (va_cwS 3 hts gX4_reading_X4_within rfl rfl rfl (by decide +kernel) ⟨Nat.le_of_ble_eq_true rfl, Nat.le_of_ble_eq_true rfl⟩) hP hD hS [] rfl (by decide) (w' := wM ad cI M) rfl rfl rfl hl.1 rfl (Nat.le_of_ble_eq_true rfl) dX4_reading_15 ⟨Nat.zero_le _, Nat.zero_le _⟩ (fun H locs hP hD hS => ?_)
    have hD : va_D A (wM ad cI M) := hD
    refine lv_if_eq (tgt := 32) hx hb dX4_reading_18 (by decide) (fun c_18 => ?_) (fun c_18 => ?_)
    · refine lv_bipush (v := (-2 : Int32)) hx hb dX4_reading_32 (by decide) ?_
      have hF : f_X4_reading M x1 x2 x3 = ((-2 : Int32), M) := by rw [f_X4_reading, if_neg c_5, if_pos c_18]
      rw [hF]
      exact kr_i B hP hS rfl rfl dX4_reading_34
    · refine lv_iload_n hx hb dX4_reading_21 rfl (lv_at hl 3 rfl) ?_
      refine lv_iconst (v := (0 : Int32)) hx hb dX4_reading_22 (by decide) ?_
      refine lv_sipush (v := (600 : Int32)) hx hb dX4_reading_23 (by decide) ?_
      refine kc_S (As := [.int x3, .int (0 : Int32), .int (600 : Int32)]) (rest := []) B (c_X4_within l D cI cO tF x3 (0 : Int32) (600 : Int32) ) (va_cwS 3 hts gX4_reading_X4_within rfl rfl rfl (by decide +kernel) ⟨Nat.le_of_ble_eq_true rfl, Nat.le_of_ble_eq_true rfl⟩) hP hD hS [] rfl (by decide) (w' := wM ad cI M) rfl rfl rfl hl.1 rfl (Nat.le_of_ble_eq_true rfl) dX4_reading_26 ⟨Nat.zero_le _, Nat.zero_le _⟩ (fun H locs hP hD hS => ?_)
      have hD : va_D A (wM ad cI M) := hD
      refine lv_if_ne (tgt := 35) hx hb dX4_reading_29 (by decide) (fun c_29 => ?_) (fun c_29 => ?_)
      · refine lv_aload_n hx hb dX4_reading_35 rfl (lv_at hl 0 rfl) ?_
        refine va_get (D := D) (ci := 4) (v := .int (M_readings M)) (C := RX4) (T := TX4) (N := 24) hx hb hts iw_X4_reading_4 hown hK hP 0 rfl rfl 20 (by decide) (hts (.fieldLink RX4 102 "TownLispModel" "readings" "I") (by decide +kernel)) (fun _ h9 => h9) rfl dX4_reading_36 ?_
        refine lv_bipush (v := (8 : Int32)) hx hb dX4_reading_39 (by decide) ?_
        refine lv_icmp_ne (tgt := 47) hx hb dX4_reading_41 (by decide) (fun c_41 => ?_) (fun c_41 => ?_)
        · refine lv_aload_n hx hb dX4_reading_47 rfl (lv_at hl 0 rfl) ?_
          refine va_get (D := D) (ci := 4) (v := .ref (ad 10)) (C := RX4) (T := TX4) (N := 24) hx hb hts iw_X4_reading_4 hown hK hP 0 rfl rfl 21 (by decide) (hts (.fieldLink RX4 37 "TownLispModel" "readWho" "[I") (by decide +kernel)) (fun _ h9 => h9) rfl dX4_reading_48 ?_
          refine lv_aload_n hx hb dX4_reading_51 rfl (lv_at hl 0 rfl) ?_
          refine va_get (D := D) (ci := 4) (v := .int (M_readings M)) (C := RX4) (T := TX4) (N := 24) hx hb hts iw_X4_reading_4 hown hK hP 0 rfl rfl 20 (by decide) (hts (.fieldLink RX4 102 "TownLispModel" "readings" "I") (by decide +kernel)) (fun _ h9 => h9) rfl dX4_reading_52 ?_
          refine lv_iload_n hx hb dX4_reading_55 rfl (lv_at hl 1 rfl) ?_
          refine va_iast hx hb hK hP hD hS 10 0 rfl rfl (rdg_in hr c_41) dX4_reading_56 (fun H locs hP hD hS => ?_)
          have hP : va_P D vwCl (wM ad cI (M_readWho' M (upd (M_readWho M) (M_readings M).toNatClampNeg x1))) H := hP
          have hD : va_D A (wM ad cI (M_readWho' M (upd (M_readWho M) (M_readings M).toNatClampNeg x1))) := hD
          refine lv_aload_n hx hb dX4_reading_57 rfl (lv_at hl 0 rfl) ?_
          refine va_get (D := D) (ci := 4) (v := .ref (ad 11)) (C := RX4) (T := TX4) (N := 24) hx hb hts iw_X4_reading_4 hown hK hP 0 rfl rfl 22 (by decide) (hts (.fieldLink RX4 40 "TownLispModel" "readParts" "[I") (by decide +kernel)) (fun _ h9 => h9) rfl dX4_reading_58 ?_
          refine lv_aload_n hx hb dX4_reading_61 rfl (lv_at hl 0 rfl) ?_
          refine va_get (D := D) (ci := 4) (v := .int (M_readings M)) (C := RX4) (T := TX4) (N := 24) hx hb hts iw_X4_reading_4 hown hK hP 0 rfl rfl 20 (by decide) (hts (.fieldLink RX4 102 "TownLispModel" "readings" "I") (by decide +kernel)) (fun _ h9 => h9) rfl dX4_reading_62 ?_
          refine lv_iload_n hx hb dX4_reading_65 rfl (lv_at hl 2 rfl) ?_
          refine va_iast hx hb hK hP hD hS 11 0 rfl rfl (rdg_in hr c_41) dX4_reading_66 (fun H locs hP hD hS => ?_)
          have hP : va_P D vwCl (wM ad cI (M_readParts' (M_readWho' M (upd (M_readWho M) (M_readings M).toNatClampNeg x1)) (upd (M_readParts M) (M_readings M).toNatClampNeg x2))) H := hP
          have hD : va_D A (wM ad cI (M_readParts' (M_readWho' M (upd (M_readWho M) (M_readings M).toNatClampNeg x1)) (upd (M_readParts M) (M_readings M).toNatClampNeg x2))) := hD
          refine lv_aload_n hx hb dX4_reading_67 rfl (lv_at hl 0 rfl) ?_
          refine va_get (D := D) (ci := 4) (v := .ref (ad 12)) (C := RX4) (T := TX4) (N := 24) hx hb hts iw_X4_reading_4 hown hK hP 0 rfl rfl 23 (by decide) (hts (.fieldLink RX4 43 "TownLispModel" "readSaid" "[I") (by decide +kernel)) (fun _ h9 => h9) rfl dX4_reading_68 ?_
          refine lv_aload_n hx hb dX4_reading_71 rfl (lv_at hl 0 rfl) ?_
          refine va_get (D := D) (ci := 4) (v := .int (M_readings M)) (C := RX4) (T := TX4) (N := 24) hx hb hts iw_X4_reading_4 hown hK hP 0 rfl rfl 20 (by decide) (hts (.fieldLink RX4 102 "TownLispModel" "readings" "I") (by decide +kernel)) (fun _ h9 => h9) rfl dX4_reading_72 ?_
          refine lv_iload_n hx hb dX4_reading_75 rfl (lv_at hl 3 rfl) ?_
          refine va_iast hx hb hK hP hD hS 12 0 rfl rfl (rdg_in hr c_41) dX4_reading_76 (fun H locs hP hD hS => ?_)
          have hP : va_P D vwCl (wM ad cI (M_readSaid' (M_readParts' (M_readWho' M (upd (M_readWho M) (M_readings M).toNatClampNeg x1)) (upd (M_readParts M) (M_readings M).toNatClampNeg x2)) (upd (M_readSaid M) (M_readings M).toNatClampNeg x3))) H := hP
          have hD : va_D A (wM ad cI (M_readSaid' (M_readParts' (M_readWho' M (upd (M_readWho M) (M_readings M).toNatClampNeg x1)) (upd (M_readParts M) (M_readings M).toNatClampNeg x2)) (upd (M_readSaid M) (M_readings M).toNatClampNeg x3))) := hD
          refine lv_aload_n hx hb dX4_reading_77 rfl (lv_at hl 0 rfl) ?_
          refine lv_dup hx hb dX4_reading_78 rfl ?_
          refine va_get (D := D) (ci := 4) (v := .int (M_readings M)) (C := RX4) (T := TX4) (N := 24) hx hb hts iw_X4_reading_4 hown hK hP 0 rfl rfl 20 (by decide) (hts (.fieldLink RX4 102 "TownLispModel" "readings" "I") (by decide +kernel)) (fun _ h9 => h9) rfl dX4_reading_79 ?_
          refine lv_iconst (v := (1 : Int32)) hx hb dX4_reading_82 (by decide) ?_
          refine lv_iadd hx hb dX4_reading_83 ?_
          refine va_put (D := D) (ci := 4) (v := .int ((M_readings M) + (1 : Int32))) (ty := .int) (C := RX4) (T := TX4) (N := 24) hx hb hts iw_X4_reading_4 tyX4 tyX4_ok nmX4 hown hK hP hD hS 0 rfl rfl 20 (by decide) (hts (.fieldLink RX4 102 "TownLispModel" "readings" "I") (by decide +kernel)) (fun _ h9 => h9) rfl (by decide +kernel) rfl rfl (Nat.le_of_ble_eq_true rfl) dX4_reading_84 (fun H locs hP hD hS => ?_)
          have hP : va_P D vwCl (wM ad cI (M_readings' (M_readSaid' (M_readParts' (M_readWho' M (upd (M_readWho M) (M_readings M).toNatClampNeg x1)) (upd (M_readParts M) (M_readings M).toNatClampNeg x2)) (upd (M_readSaid M) (M_readings M).toNatClampNeg x3)) ((M_readings M) + (1 : Int32)))) H := hP
          have hD : va_D A (wM ad cI (M_readings' (M_readSaid' (M_readParts' (M_readWho' M (upd (M_readWho M) (M_readings M).toNatClampNeg x1)) (upd (M_readParts M) (M_readings M).toNatClampNeg x2)) (upd (M_readSaid M) (M_readings M).toNatClampNeg x3)) ((M_readings M) + (1 : Int32)))) := hD
          refine lv_aload_n hx hb dX4_reading_87 rfl (lv_at hl 0 rfl) ?_
          refine va_get (D := D) (ci := 4) (v := .int ((M_readings M) + (1 : Int32))) (C := RX4) (T := TX4) (N := 24) hx hb hts iw_X4_reading_4 hown hK hP 0 rfl rfl 20 (by decide) (hts (.fieldLink RX4 102 "TownLispModel" "readings" "I") (by decide +kernel)) (fun _ h9 => h9) rfl dX4_reading_88 ?_
          refine lv_iconst (v := (1 : Int32)) hx hb dX4_reading_91 (by decide) ?_
          refine lv_isub hx hb dX4_reading_92 ?_
          have hF : f_X4_reading M x1 x2 x3 = ((((M_readings M) + (1 : Int32)) - (1 : Int32)), (M_readings' (M_readSaid' (M_readParts' (M_readWho' M (upd (M_readWho M) (M_readings M).toNatClampNeg x1)) (upd (M_readParts M) (M_readings M).toNatClampNeg x2)) (upd (M_readSaid M) (M_readings M).toNatClampNeg x3)) ((M_readings M) + (1 : Int32)))) := by rw [f_X4_reading, if_neg c_5, if_neg c_18, if_neg c_29, if_neg c_41]
          rw [hF]
          exact kr_i B hP hS rfl rfl dX4_reading_93
        · refine lv_bipush (v := (-4 : Int32)) hx hb dX4_reading_44 (by decide) ?_
          have hF : f_X4_reading M x1 x2 x3 = ((-4 : Int32), M) := by rw [f_X4_reading, if_neg c_5, if_neg c_18, if_neg c_29, if_pos c_41]
          rw [hF]
          exact kr_i B hP hS rfl rfl dX4_reading_46
      · refine lv_bipush (v := (-2 : Int32)) hx hb dX4_reading_32 (by decide) ?_
        have hF : f_X4_reading M x1 x2 x3 = ((-2 : Int32), M) := by rw [f_X4_reading, if_neg c_5, if_neg c_18, if_pos c_29]
        rw [hF]
        exact kr_i B hP hS rfl rfl dX4_reading_34
  · refine lv_iconst (v := (-1 : Int32)) hx hb dX4_reading_8 (by decide) ?_
    have hF : f_X4_reading M x1 x2 x3 = ((-1 : Int32), M) := by rw [f_X4_reading, if_pos c_5]
    rw [hF]
    exact kr_i B hP hS rfl rfl dX4_reading_9
def f_X4_back (M : MS) (x1 : Int32) : Int32 × MS := (if (f_X4_within x1 (0 : Int32) (M_readings M)) = 0 then ((-2 : Int32), M) else (((M_readings M) - x1), (M_readings' M ((M_readings M) - x1))))
theorem iw_X4_back_4 : ∀ w ∈ wsX40, w ∈ wsX4_back := fun _ h => List.mem_cons_of_mem _ (List.mem_append_right _ h)
set_option maxHeartbeats 4000000 in
set_option maxRecDepth 100000 in
theorem c_X4_back (l : Launch) (D : va_G) (cI cO : ClassId) (tF : Nat) (ad : Nat → Nat) (M : MS) (x1 : Int32) : Ct l yX4_back wsX4_back ({ frames := 1, cells := 0, slots := 0, locals := 22 }) D cI cO tF [.ref (ad 0), .int x1] (wM ad cI M) (some (.int ((f_X4_back M x1).1))) (wM ad cI ((f_X4_back M x1).2)) := by
  refine Ct.of (cc := cX4_back) (maxL := 2) (ret := (some .int)) (own := RX4) (by decide) rfl rfl (Nat.le_of_ble_eq_true rfl) ?_
  intro p e s m args below meth c A ls B hP hD hS hl
  obtain ⟨hx, hb, hret, hml, hts, hown, hlocks, hE, hA⟩ := id B
  have hK := hE.1
  have hl : lv_has ls 2 [(0, .ref (ad 0)), (1, .int x1)] := hl
  refine lv_iload_n hx hb dX4_back_0 rfl (lv_at hl 1 rfl) ?_
  refine lv_iconst (v := (0 : Int32)) hx hb dX4_back_1 (by decide) ?_
  refine lv_aload_n hx hb dX4_back_2 rfl (lv_at hl 0 rfl) ?_
  refine va_get (D := D) (ci := 4) (v := .int (M_readings M)) (C := RX4) (T := TX4) (N := 24) hx hb hts iw_X4_back_4 hown hK hP 0 rfl rfl 20 (by decide) (hts (.fieldLink RX4 102 "TownLispModel" "readings" "I") (by decide +kernel)) (fun _ h9 => h9) rfl dX4_back_3 ?_
  refine kc_S (As := [.int x1, .int (0 : Int32), .int (M_readings M)]) (rest := []) B (c_X4_within l D cI cO tF x1 (0 : Int32) (M_readings M) ) (va_cwS 3 hts gX4_back_X4_within rfl rfl rfl (by decide +kernel) ⟨Nat.le_of_ble_eq_true rfl, Nat.le_of_ble_eq_true rfl⟩) hP hD hS [] rfl (by decide) (w' := wM ad cI M) rfl rfl rfl hl.1 rfl (Nat.le_of_ble_eq_true rfl) dX4_back_6 ⟨Nat.zero_le _, Nat.zero_le _⟩ (fun H locs hP hD hS => ?_)
  have hD : va_D A (wM ad cI M) := hD
  refine lv_if_ne (tgt := 15) hx hb dX4_back_9 (by decide) (fun c_9 => ?_) (fun c_9 => ?_)
  · refine lv_aload_n hx hb dX4_back_15 rfl (lv_at hl 0 rfl) ?_
    refine lv_dup hx hb dX4_back_16 rfl ?_
    refine va_get (D := D) (ci := 4) (v := .int (M_readings M)) (C := RX4) (T := TX4) (N := 24) hx hb hts iw_X4_back_4 hown hK hP 0 rfl rfl 20 (by decide) (hts (.fieldLink RX4 102 "TownLispModel" "readings" "I") (by decide +kernel)) (fun _ h9 => h9) rfl dX4_back_17 ?_
    refine lv_iload_n hx hb dX4_back_20 rfl (lv_at hl 1 rfl) ?_
    refine lv_isub hx hb dX4_back_21 ?_
    refine va_put (D := D) (ci := 4) (v := .int ((M_readings M) - x1)) (ty := .int) (C := RX4) (T := TX4) (N := 24) hx hb hts iw_X4_back_4 tyX4 tyX4_ok nmX4 hown hK hP hD hS 0 rfl rfl 20 (by decide) (hts (.fieldLink RX4 102 "TownLispModel" "readings" "I") (by decide +kernel)) (fun _ h9 => h9) rfl (by decide +kernel) rfl rfl (Nat.le_of_ble_eq_true rfl) dX4_back_22 (fun H locs hP hD hS => ?_)
    have hP : va_P D vwCl (wM ad cI (M_readings' M ((M_readings M) - x1))) H := hP
    have hD : va_D A (wM ad cI (M_readings' M ((M_readings M) - x1))) := hD
    refine lv_aload_n hx hb dX4_back_25 rfl (lv_at hl 0 rfl) ?_
    refine va_get (D := D) (ci := 4) (v := .int ((M_readings M) - x1)) (C := RX4) (T := TX4) (N := 24) hx hb hts iw_X4_back_4 hown hK hP 0 rfl rfl 20 (by decide) (hts (.fieldLink RX4 102 "TownLispModel" "readings" "I") (by decide +kernel)) (fun _ h9 => h9) rfl dX4_back_26 ?_
    have hF : f_X4_back M x1 = (((M_readings M) - x1), (M_readings' M ((M_readings M) - x1))) := by rw [f_X4_back, if_neg c_9]
    rw [hF]
    exact kr_i B hP hS rfl rfl dX4_back_29
  · refine lv_bipush (v := (-2 : Int32)) hx hb dX4_back_12 (by decide) ?_
    have hF : f_X4_back M x1 = ((-2 : Int32), M) := by rw [f_X4_back, if_pos c_9]
    rw [hF]
    exact kr_i B hP hS rfl rfl dX4_back_14
def f_X4_tell (M : MS) (x1 : Int32) : Int32 × MS := (if (f_X4_isPerson M x1) = 0 then ((-1 : Int32), M) else (if ((M_kind M) x1.toNatClampNeg) = (1 : Int32) then ((((M_thick M) x1.toNatClampNeg) + (100 : Int32)), (f_X4_begins (f_X4_begins M (2 : Int32)) (1 : Int32))) else (if ((M_kind M) x1.toNatClampNeg) = (2 : Int32) then ((((2 : Int32) * ((M_thick M) x1.toNatClampNeg)) + (100 : Int32)), (f_X4_begins (f_X4_begins (f_X4_begins (f_X4_begins M (3 : Int32)) (2 : Int32)) (1 : Int32)) (1 : Int32))) else (((M_thick M) x1.toNatClampNeg), (f_X4_begins M (1 : Int32))))))
theorem iw_X4_tell_4 : ∀ w ∈ wsX40, w ∈ wsX4_tell := fun _ h => List.mem_cons_of_mem _ (List.mem_append_right _ h)
set_option maxHeartbeats 4000000 in
set_option maxRecDepth 100000 in
theorem c_X4_tell (l : Launch) (D : va_G) (cI cO : ClassId) (tF : Nat) (ad : Nat → Nat) (M : MS) (x1 : Int32) (hn : (M_people M).toInt ≤ 6) : Ct l yX4_tell wsX4_tell ({ frames := 1, cells := 0, slots := 0, locals := 21 }) D cI cO tF [.ref (ad 0), .int x1] (wM ad cI M) (some (.int ((f_X4_tell M x1).1))) (wM ad cI ((f_X4_tell M x1).2)) := by
  refine Ct.of (cc := cX4_tell) (maxL := 3) (ret := (some .int)) (own := RX4) (by decide) rfl rfl (Nat.le_of_ble_eq_true rfl) ?_
  intro p e s m args below meth c A ls B hP hD hS hl
  obtain ⟨hx, hb, hret, hml, hts, hown, hlocks, hE, hA⟩ := id B
  have hK := hE.1
  have hl : lv_has ls 3 [(0, .ref (ad 0)), (1, .int x1)] := hl
  refine lv_aload_n hx hb dX4_tell_0 rfl (lv_at hl 0 rfl) ?_
  refine lv_iload_n hx hb dX4_tell_1 rfl (lv_at hl 1 rfl) ?_
  refine kc_V (As := [.int x1]) (rest := []) B (c_X4_isPerson l D cI cO tF ad M x1 ) (cwV 1 hts gX4_tell_X4_isPerson rfl rfl rfl (by decide +kernel) ⟨Nat.le_of_ble_eq_true rfl, Nat.le_of_ble_eq_true rfl⟩) hP hD hS [0, 1, 2, 3, 4, 5, 6, 7, 8, 9, 10, 11, 12] wM_subA (by decide) (w' := wM ad cI M) (wM_setA _) (wM_fst _) 0 4 rfl rfl rfl rfl hl.1 rfl (Nat.le_of_ble_eq_true rfl) dX4_tell_2 ⟨Nat.zero_le _, Nat.zero_le _⟩ (fun H locs hP hD hS => ?_)
  have hD : va_D A (wM ad cI M) := hD
  refine lv_if_ne (tgt := 10) hx hb dX4_tell_5 (by decide) (fun c_5 => ?_) (fun c_5 => ?_)
  · refine lv_aload_n hx hb dX4_tell_10 rfl (lv_at hl 0 rfl) ?_
    refine va_get (D := D) (ci := 4) (v := .ref (ad 6)) (C := RX4) (T := TX4) (N := 24) hx hb hts iw_X4_tell_4 hown hK hP 0 rfl rfl 11 (by decide) (hts (.fieldLink RX4 25 "TownLispModel" "thick" "[I") (by decide +kernel)) (fun _ h9 => h9) rfl dX4_tell_11 ?_
    refine lv_iload_n hx hb dX4_tell_14 rfl (lv_at hl 1 rfl) ?_
    refine va_iald hx hb hK hP 6 0 rfl rfl (mi_in hn c_5) dX4_tell_15 ?_
    refine lv_istore_n (lv' := [(2, .int ((M_thick M) x1.toNatClampNeg)), (0, .ref (ad 0)), (1, .int x1)]) hx hb dX4_tell_16 rfl hl (by decide) rfl (fun ls hl => ?_)
    refine lv_aload_n hx hb dX4_tell_17 rfl (lv_at hl 1 rfl) ?_
    refine va_get (D := D) (ci := 4) (v := .ref (ad 4)) (C := RX4) (T := TX4) (N := 24) hx hb hts iw_X4_tell_4 hown hK hP 0 rfl rfl 9 (by decide) (hts (.fieldLink RX4 19 "TownLispModel" "kind" "[I") (by decide +kernel)) (fun _ h9 => h9) rfl dX4_tell_18 ?_
    refine lv_iload_n hx hb dX4_tell_21 rfl (lv_at hl 2 rfl) ?_
    refine va_iald hx hb hK hP 4 0 rfl rfl (mi_in hn c_5) dX4_tell_22 ?_
    by_cases c_23_1 : ((M_kind M) x1.toNatClampNeg) = (1 : Int32)
    · refine lv_lookup (off := 25) (tgt := 48) hx hb dX4_tell_23 (by decide) (by rw [c_23_1]; rfl) (by decide) ?_
      refine lv_aload_n hx hb dX4_tell_48 rfl (lv_at hl 1 rfl) ?_
      refine lv_iconst (v := (2 : Int32)) hx hb dX4_tell_49 (by decide) ?_
      refine kc_V (As := [.int (2 : Int32)]) (rest := []) B (c_X4_begins l D cI cO tF ad M (2 : Int32) ) (cwV 1 hts gX4_tell_X4_begins rfl rfl rfl (by decide +kernel) ⟨Nat.le_of_ble_eq_true rfl, Nat.le_of_ble_eq_true rfl⟩) hP hD hS [0, 1, 2, 3, 4, 5, 6, 7, 8, 9, 10, 11, 12] wM_subA (by decide) (w' := wM ad cI (f_X4_begins M (2 : Int32))) (wM_setA _) (wM_fst _) 0 4 rfl rfl rfl rfl hl.1 rfl (Nat.le_of_ble_eq_true rfl) dX4_tell_50 ⟨Nat.zero_le _, Nat.zero_le _⟩ (fun H locs hP hD hS => ?_)
      have hD : va_D A (wM ad cI (f_X4_begins M (2 : Int32))) := hD
      refine lv_aload_n hx hb dX4_tell_53 rfl (lv_at hl 1 rfl) ?_
      refine lv_iconst (v := (1 : Int32)) hx hb dX4_tell_54 (by decide) ?_
      refine kc_V (As := [.int (1 : Int32)]) (rest := []) B (c_X4_begins l D cI cO tF ad (f_X4_begins M (2 : Int32)) (1 : Int32) ) (cwV 1 hts gX4_tell_X4_begins rfl rfl rfl (by decide +kernel) ⟨Nat.le_of_ble_eq_true rfl, Nat.le_of_ble_eq_true rfl⟩) hP hD hS [0, 1, 2, 3, 4, 5, 6, 7, 8, 9, 10, 11, 12] wM_subA (by decide) (w' := wM ad cI (f_X4_begins (f_X4_begins M (2 : Int32)) (1 : Int32))) (wM_setA _) (wM_fst _) 0 4 rfl rfl rfl rfl hl.1 rfl (Nat.le_of_ble_eq_true rfl) dX4_tell_55 ⟨Nat.zero_le _, Nat.zero_le _⟩ (fun H locs hP hD hS => ?_)
      have hD : va_D A (wM ad cI (f_X4_begins (f_X4_begins M (2 : Int32)) (1 : Int32))) := hD
      refine lv_iload_n hx hb dX4_tell_58 rfl (lv_at hl 0 rfl) ?_
      refine lv_bipush (v := (100 : Int32)) hx hb dX4_tell_59 (by decide) ?_
      refine lv_iadd hx hb dX4_tell_61 ?_
      have hF : f_X4_tell M x1 = ((((M_thick M) x1.toNatClampNeg) + (100 : Int32)), (f_X4_begins (f_X4_begins M (2 : Int32)) (1 : Int32))) := by rw [f_X4_tell, if_neg c_5, if_pos c_23_1]
      rw [hF]
      exact kr_i B hP hS rfl rfl dX4_tell_62
    by_cases c_23_2 : ((M_kind M) x1.toNatClampNeg) = (2 : Int32)
    · refine lv_lookup (off := 40) (tgt := 63) hx hb dX4_tell_23 (by decide) (by rw [c_23_2]; rfl) (by decide) ?_
      refine lv_aload_n hx hb dX4_tell_63 rfl (lv_at hl 1 rfl) ?_
      refine lv_iconst (v := (3 : Int32)) hx hb dX4_tell_64 (by decide) ?_
      refine kc_V (As := [.int (3 : Int32)]) (rest := []) B (c_X4_begins l D cI cO tF ad M (3 : Int32) ) (cwV 1 hts gX4_tell_X4_begins rfl rfl rfl (by decide +kernel) ⟨Nat.le_of_ble_eq_true rfl, Nat.le_of_ble_eq_true rfl⟩) hP hD hS [0, 1, 2, 3, 4, 5, 6, 7, 8, 9, 10, 11, 12] wM_subA (by decide) (w' := wM ad cI (f_X4_begins M (3 : Int32))) (wM_setA _) (wM_fst _) 0 4 rfl rfl rfl rfl hl.1 rfl (Nat.le_of_ble_eq_true rfl) dX4_tell_65 ⟨Nat.zero_le _, Nat.zero_le _⟩ (fun H locs hP hD hS => ?_)
      have hD : va_D A (wM ad cI (f_X4_begins M (3 : Int32))) := hD
      refine lv_aload_n hx hb dX4_tell_68 rfl (lv_at hl 1 rfl) ?_
      refine lv_iconst (v := (2 : Int32)) hx hb dX4_tell_69 (by decide) ?_
      refine kc_V (As := [.int (2 : Int32)]) (rest := []) B (c_X4_begins l D cI cO tF ad (f_X4_begins M (3 : Int32)) (2 : Int32) ) (cwV 1 hts gX4_tell_X4_begins rfl rfl rfl (by decide +kernel) ⟨Nat.le_of_ble_eq_true rfl, Nat.le_of_ble_eq_true rfl⟩) hP hD hS [0, 1, 2, 3, 4, 5, 6, 7, 8, 9, 10, 11, 12] wM_subA (by decide) (w' := wM ad cI (f_X4_begins (f_X4_begins M (3 : Int32)) (2 : Int32))) (wM_setA _) (wM_fst _) 0 4 rfl rfl rfl rfl hl.1 rfl (Nat.le_of_ble_eq_true rfl) dX4_tell_70 ⟨Nat.zero_le _, Nat.zero_le _⟩ (fun H locs hP hD hS => ?_)
      have hD : va_D A (wM ad cI (f_X4_begins (f_X4_begins M (3 : Int32)) (2 : Int32))) := hD
      refine lv_aload_n hx hb dX4_tell_73 rfl (lv_at hl 1 rfl) ?_
      refine lv_iconst (v := (1 : Int32)) hx hb dX4_tell_74 (by decide) ?_
      refine kc_V (As := [.int (1 : Int32)]) (rest := []) B (c_X4_begins l D cI cO tF ad (f_X4_begins (f_X4_begins M (3 : Int32)) (2 : Int32)) (1 : Int32) ) (cwV 1 hts gX4_tell_X4_begins rfl rfl rfl (by decide +kernel) ⟨Nat.le_of_ble_eq_true rfl, Nat.le_of_ble_eq_true rfl⟩) hP hD hS [0, 1, 2, 3, 4, 5, 6, 7, 8, 9, 10, 11, 12] wM_subA (by decide) (w' := wM ad cI (f_X4_begins (f_X4_begins (f_X4_begins M (3 : Int32)) (2 : Int32)) (1 : Int32))) (wM_setA _) (wM_fst _) 0 4 rfl rfl rfl rfl hl.1 rfl (Nat.le_of_ble_eq_true rfl) dX4_tell_75 ⟨Nat.zero_le _, Nat.zero_le _⟩ (fun H locs hP hD hS => ?_)
      have hD : va_D A (wM ad cI (f_X4_begins (f_X4_begins (f_X4_begins M (3 : Int32)) (2 : Int32)) (1 : Int32))) := hD
      refine lv_aload_n hx hb dX4_tell_78 rfl (lv_at hl 1 rfl) ?_
      refine lv_iconst (v := (1 : Int32)) hx hb dX4_tell_79 (by decide) ?_
      refine kc_V (As := [.int (1 : Int32)]) (rest := []) B (c_X4_begins l D cI cO tF ad (f_X4_begins (f_X4_begins (f_X4_begins M (3 : Int32)) (2 : Int32)) (1 : Int32)) (1 : Int32) ) (cwV 1 hts gX4_tell_X4_begins rfl rfl rfl (by decide +kernel) ⟨Nat.le_of_ble_eq_true rfl, Nat.le_of_ble_eq_true rfl⟩) hP hD hS [0, 1, 2, 3, 4, 5, 6, 7, 8, 9, 10, 11, 12] wM_subA (by decide) (w' := wM ad cI (f_X4_begins (f_X4_begins (f_X4_begins (f_X4_begins M (3 : Int32)) (2 : Int32)) (1 : Int32)) (1 : Int32))) (wM_setA _) (wM_fst _) 0 4 rfl rfl rfl rfl hl.1 rfl (Nat.le_of_ble_eq_true rfl) dX4_tell_80 ⟨Nat.zero_le _, Nat.zero_le _⟩ (fun H locs hP hD hS => ?_)
      have hD : va_D A (wM ad cI (f_X4_begins (f_X4_begins (f_X4_begins (f_X4_begins M (3 : Int32)) (2 : Int32)) (1 : Int32)) (1 : Int32))) := hD
      refine lv_iconst (v := (2 : Int32)) hx hb dX4_tell_83 (by decide) ?_
      refine lv_iload_n hx hb dX4_tell_84 rfl (lv_at hl 0 rfl) ?_
      refine lv_imul hx hb dX4_tell_85 ?_
      refine lv_bipush (v := (100 : Int32)) hx hb dX4_tell_86 (by decide) ?_
      refine lv_iadd hx hb dX4_tell_88 ?_
      have hF : f_X4_tell M x1 = ((((2 : Int32) * ((M_thick M) x1.toNatClampNeg)) + (100 : Int32)), (f_X4_begins (f_X4_begins (f_X4_begins (f_X4_begins M (3 : Int32)) (2 : Int32)) (1 : Int32)) (1 : Int32))) := by rw [f_X4_tell, if_neg c_5, if_neg c_23_1, if_pos c_23_2]
      rw [hF]
      exact kr_i B hP hS rfl rfl dX4_tell_89
    refine lv_lookup (off := 67) (tgt := 90) hx hb dX4_tell_23 (by decide) (by show Op.lookupswitch.offset [(1, 25), (2, 40)] 67 _ = _; rw [Op.lookupswitch.offset_cons, if_neg (fun h => c_23_1 ((fa_eq _ _).mpr h.symm)), Op.lookupswitch.offset_cons, if_neg (fun h => c_23_2 ((fa_eq _ _).mpr h.symm)), Op.lookupswitch.offset_nil]) (by decide) ?_
    refine lv_aload_n hx hb dX4_tell_90 rfl (lv_at hl 1 rfl) ?_
    refine lv_iconst (v := (1 : Int32)) hx hb dX4_tell_91 (by decide) ?_
    refine kc_V (As := [.int (1 : Int32)]) (rest := []) B (c_X4_begins l D cI cO tF ad M (1 : Int32) ) (cwV 1 hts gX4_tell_X4_begins rfl rfl rfl (by decide +kernel) ⟨Nat.le_of_ble_eq_true rfl, Nat.le_of_ble_eq_true rfl⟩) hP hD hS [0, 1, 2, 3, 4, 5, 6, 7, 8, 9, 10, 11, 12] wM_subA (by decide) (w' := wM ad cI (f_X4_begins M (1 : Int32))) (wM_setA _) (wM_fst _) 0 4 rfl rfl rfl rfl hl.1 rfl (Nat.le_of_ble_eq_true rfl) dX4_tell_92 ⟨Nat.zero_le _, Nat.zero_le _⟩ (fun H locs hP hD hS => ?_)
    have hD : va_D A (wM ad cI (f_X4_begins M (1 : Int32))) := hD
    refine lv_iload_n hx hb dX4_tell_95 rfl (lv_at hl 0 rfl) ?_
    have hF : f_X4_tell M x1 = (((M_thick M) x1.toNatClampNeg), (f_X4_begins M (1 : Int32))) := by rw [f_X4_tell, if_neg c_5, if_neg c_23_1, if_neg c_23_2]
    rw [hF]
    exact kr_i B hP hS rfl rfl dX4_tell_96
  · refine lv_iconst (v := (-1 : Int32)) hx hb dX4_tell_8 (by decide) ?_
    have hF : f_X4_tell M x1 = ((-1 : Int32), M) := by rw [f_X4_tell, if_pos c_5]
    rw [hF]
    exact kr_i B hP hS rfl rfl dX4_tell_9
def f_X4_call (M : MS) (x1 : Int32) : Int32 × MS := (if (f_X4_isPerson M x1) = 0 then ((-1 : Int32), M) else (if ((M_kind M) x1.toNatClampNeg) = (2 : Int32) then (if ((M_kind (f_X4_begins M (5 : Int32))) x1.toNatClampNeg) = (2 : Int32) then ((30 : Int32), (f_X4_begins M (5 : Int32))) else (x1, (f_X4_begins M (5 : Int32)))) else (if ((M_kind (f_X4_begins M (4 : Int32))) x1.toNatClampNeg) = (2 : Int32) then ((30 : Int32), (f_X4_begins M (4 : Int32))) else (x1, (f_X4_begins M (4 : Int32))))))
theorem iw_X4_call_4 : ∀ w ∈ wsX40, w ∈ wsX4_call := fun _ h => List.mem_cons_of_mem _ (List.mem_append_right _ h)
set_option maxHeartbeats 4000000 in
set_option maxRecDepth 100000 in
theorem c_X4_call (l : Launch) (D : va_G) (cI cO : ClassId) (tF : Nat) (ad : Nat → Nat) (M : MS) (x1 : Int32) (hn : (M_people M).toInt ≤ 6) : Ct l yX4_call wsX4_call ({ frames := 1, cells := 0, slots := 0, locals := 21 }) D cI cO tF [.ref (ad 0), .int x1] (wM ad cI M) (some (.int ((f_X4_call M x1).1))) (wM ad cI ((f_X4_call M x1).2)) := by
  refine Ct.of (cc := cX4_call) (maxL := 2) (ret := (some .int)) (own := RX4) (by decide) rfl rfl (Nat.le_of_ble_eq_true rfl) ?_
  intro p e s m args below meth c A ls B hP hD hS hl
  obtain ⟨hx, hb, hret, hml, hts, hown, hlocks, hE, hA⟩ := id B
  have hK := hE.1
  have hl : lv_has ls 2 [(0, .ref (ad 0)), (1, .int x1)] := hl
  refine lv_aload_n hx hb dX4_call_0 rfl (lv_at hl 0 rfl) ?_
  refine lv_iload_n hx hb dX4_call_1 rfl (lv_at hl 1 rfl) ?_
  refine kc_V (As := [.int x1]) (rest := []) B (c_X4_isPerson l D cI cO tF ad M x1 ) (cwV 1 hts gX4_call_X4_isPerson rfl rfl rfl (by decide +kernel) ⟨Nat.le_of_ble_eq_true rfl, Nat.le_of_ble_eq_true rfl⟩) hP hD hS [0, 1, 2, 3, 4, 5, 6, 7, 8, 9, 10, 11, 12] wM_subA (by decide) (w' := wM ad cI M) (wM_setA _) (wM_fst _) 0 4 rfl rfl rfl rfl hl.1 rfl (Nat.le_of_ble_eq_true rfl) dX4_call_2 ⟨Nat.zero_le _, Nat.zero_le _⟩ (fun H locs hP hD hS => ?_)
  have hD : va_D A (wM ad cI M) := hD
  refine lv_if_ne (tgt := 10) hx hb dX4_call_5 (by decide) (fun c_5 => ?_) (fun c_5 => ?_)
  · refine lv_aload_n hx hb dX4_call_10 rfl (lv_at hl 0 rfl) ?_
    refine lv_aload_n hx hb dX4_call_11 rfl (lv_at hl 0 rfl) ?_
    refine va_get (D := D) (ci := 4) (v := .ref (ad 4)) (C := RX4) (T := TX4) (N := 24) hx hb hts iw_X4_call_4 hown hK hP 0 rfl rfl 9 (by decide) (hts (.fieldLink RX4 19 "TownLispModel" "kind" "[I") (by decide +kernel)) (fun _ h9 => h9) rfl dX4_call_12 ?_
    refine lv_iload_n hx hb dX4_call_15 rfl (lv_at hl 1 rfl) ?_
    refine va_iald hx hb hK hP 4 0 rfl rfl (mi_in hn c_5) dX4_call_16 ?_
    refine lv_iconst (v := (2 : Int32)) hx hb dX4_call_17 (by decide) ?_
    refine lv_icmp_ne (tgt := 25) hx hb dX4_call_18 (by decide) (fun c_18 => ?_) (fun c_18 => ?_)
    · refine lv_iconst (v := (4 : Int32)) hx hb dX4_call_25 (by decide) ?_
      refine kc_V (As := [.int (4 : Int32)]) (rest := []) B (c_X4_begins l D cI cO tF ad M (4 : Int32) ) (cwV 1 hts gX4_call_X4_begins rfl rfl rfl (by decide +kernel) ⟨Nat.le_of_ble_eq_true rfl, Nat.le_of_ble_eq_true rfl⟩) hP hD hS [0, 1, 2, 3, 4, 5, 6, 7, 8, 9, 10, 11, 12] wM_subA (by decide) (w' := wM ad cI (f_X4_begins M (4 : Int32))) (wM_setA _) (wM_fst _) 0 4 rfl rfl rfl rfl hl.1 rfl (Nat.le_of_ble_eq_true rfl) dX4_call_26 ⟨Nat.zero_le _, Nat.zero_le _⟩ (fun H locs hP hD hS => ?_)
      have hD : va_D A (wM ad cI (f_X4_begins M (4 : Int32))) := hD
      refine lv_aload_n hx hb dX4_call_29 rfl (lv_at hl 0 rfl) ?_
      refine va_get (D := D) (ci := 4) (v := .ref (ad 4)) (C := RX4) (T := TX4) (N := 24) hx hb hts iw_X4_call_4 hown hK hP 0 rfl rfl 9 (by decide) (hts (.fieldLink RX4 19 "TownLispModel" "kind" "[I") (by decide +kernel)) (fun _ h9 => h9) rfl dX4_call_30 ?_
      refine lv_iload_n hx hb dX4_call_33 rfl (lv_at hl 1 rfl) ?_
      refine va_iald hx hb hK hP 4 0 rfl rfl (mi_in hn c_5) dX4_call_34 ?_
      refine lv_iconst (v := (2 : Int32)) hx hb dX4_call_35 (by decide) ?_
      refine lv_icmp_ne (tgt := 44) hx hb dX4_call_36 (by decide) (fun c_36 => ?_) (fun c_36 => ?_)
      · refine lv_iload_n hx hb dX4_call_44 rfl (lv_at hl 1 rfl) ?_
        have hF : f_X4_call M x1 = (x1, (f_X4_begins M (4 : Int32))) := by rw [f_X4_call, if_neg c_5, if_neg c_18, if_neg c_36]
        rw [hF]
        exact kr_i B hP hS rfl rfl dX4_call_45
      · refine lv_bipush (v := (30 : Int32)) hx hb dX4_call_39 (by decide) ?_
        refine lv_goto (tgt := 45) hx hb dX4_call_41 (by decide) ?_
        have hF : f_X4_call M x1 = ((30 : Int32), (f_X4_begins M (4 : Int32))) := by rw [f_X4_call, if_neg c_5, if_neg c_18, if_pos c_36]
        rw [hF]
        exact kr_i B hP hS rfl rfl dX4_call_45
    · refine lv_iconst (v := (5 : Int32)) hx hb dX4_call_21 (by decide) ?_
      refine lv_goto (tgt := 26) hx hb dX4_call_22 (by decide) ?_
      refine kc_V (As := [.int (5 : Int32)]) (rest := []) B (c_X4_begins l D cI cO tF ad M (5 : Int32) ) (cwV 1 hts gX4_call_X4_begins rfl rfl rfl (by decide +kernel) ⟨Nat.le_of_ble_eq_true rfl, Nat.le_of_ble_eq_true rfl⟩) hP hD hS [0, 1, 2, 3, 4, 5, 6, 7, 8, 9, 10, 11, 12] wM_subA (by decide) (w' := wM ad cI (f_X4_begins M (5 : Int32))) (wM_setA _) (wM_fst _) 0 4 rfl rfl rfl rfl hl.1 rfl (Nat.le_of_ble_eq_true rfl) dX4_call_26 ⟨Nat.zero_le _, Nat.zero_le _⟩ (fun H locs hP hD hS => ?_)
      have hD : va_D A (wM ad cI (f_X4_begins M (5 : Int32))) := hD
      refine lv_aload_n hx hb dX4_call_29 rfl (lv_at hl 0 rfl) ?_
      refine va_get (D := D) (ci := 4) (v := .ref (ad 4)) (C := RX4) (T := TX4) (N := 24) hx hb hts iw_X4_call_4 hown hK hP 0 rfl rfl 9 (by decide) (hts (.fieldLink RX4 19 "TownLispModel" "kind" "[I") (by decide +kernel)) (fun _ h9 => h9) rfl dX4_call_30 ?_
      refine lv_iload_n hx hb dX4_call_33 rfl (lv_at hl 1 rfl) ?_
      refine va_iald hx hb hK hP 4 0 rfl rfl (mi_in hn c_5) dX4_call_34 ?_
      refine lv_iconst (v := (2 : Int32)) hx hb dX4_call_35 (by decide) ?_
      refine lv_icmp_ne (tgt := 44) hx hb dX4_call_36 (by decide) (fun c_36 => ?_) (fun c_36 => ?_)
      · refine lv_iload_n hx hb dX4_call_44 rfl (lv_at hl 1 rfl) ?_
        have hF : f_X4_call M x1 = (x1, (f_X4_begins M (5 : Int32))) := by rw [f_X4_call, if_neg c_5, if_pos c_18, if_neg c_36]
        rw [hF]
        exact kr_i B hP hS rfl rfl dX4_call_45
      · refine lv_bipush (v := (30 : Int32)) hx hb dX4_call_39 (by decide) ?_
        refine lv_goto (tgt := 45) hx hb dX4_call_41 (by decide) ?_
        have hF : f_X4_call M x1 = ((30 : Int32), (f_X4_begins M (5 : Int32))) := by rw [f_X4_call, if_neg c_5, if_pos c_18, if_pos c_36]
        rw [hF]
        exact kr_i B hP hS rfl rfl dX4_call_45
  · refine lv_iconst (v := (-1 : Int32)) hx hb dX4_call_8 (by decide) ?_
    have hF : f_X4_call M x1 = ((-1 : Int32), M) := by rw [f_X4_call, if_pos c_5]
    rw [hF]
    exact kr_i B hP hS rfl rfl dX4_call_9
def f_X4_as (M : MS) (x1 : Int32) (x2 : Int32) : Int32 × MS := (if (f_X4_isPerson (M_fault' M (0 : Int32)) x1) = 0 then ((-1 : Int32), (M_fault' M (0 : Int32))) else (if (f_X4_within x2 (0 : Int32) (2 : Int32)) = 0 then ((-2 : Int32), (M_fault' M (0 : Int32))) else (if ((M_kind M) x1.toNatClampNeg) < x2 then ((f_X4_fails (M_fault' M (0 : Int32)) (2 : Int32)).1, (f_X4_fails (M_fault' M (0 : Int32)) (2 : Int32)).2) else ((1 : Int32), (M_fault' M (0 : Int32))))))
theorem iw_X4_as_4 : ∀ w ∈ wsX40, w ∈ wsX4_as := fun _ h => List.mem_cons_of_mem _ (List.mem_append_right _ h)
set_option maxHeartbeats 4000000 in
set_option maxRecDepth 100000 in
theorem c_X4_as (l : Launch) (D : va_G) (cI cO : ClassId) (tF : Nat) (ad : Nat → Nat) (M : MS) (x1 : Int32) (x2 : Int32) (hn : (M_people M).toInt ≤ 6) : Ct l yX4_as wsX4_as ({ frames := 1, cells := 0, slots := 0, locals := 22 }) D cI cO tF [.ref (ad 0), .int x1, .int x2] (wM ad cI M) (some (.int ((f_X4_as M x1 x2).1))) (wM ad cI ((f_X4_as M x1 x2).2)) := by
  refine Ct.of (cc := cX4_as) (maxL := 3) (ret := (some .int)) (own := RX4) (by decide) rfl rfl (Nat.le_of_ble_eq_true rfl) ?_
  intro p e s m args below meth c A ls B hP hD hS hl
  obtain ⟨hx, hb, hret, hml, hts, hown, hlocks, hE, hA⟩ := id B
  have hK := hE.1
  have hl : lv_has ls 3 [(0, .ref (ad 0)), (1, .int x1), (2, .int x2)] := hl
  refine lv_aload_n hx hb dX4_as_0 rfl (lv_at hl 0 rfl) ?_
  refine lv_iconst (v := (0 : Int32)) hx hb dX4_as_1 (by decide) ?_
  refine va_put (D := D) (ci := 4) (v := .int (0 : Int32)) (ty := .int) (C := RX4) (T := TX4) (N := 24) hx hb hts iw_X4_as_4 tyX4 tyX4_ok nmX4 hown hK hP hD hS 0 rfl rfl 0 (by decide) (hts (.fieldLink RX4 46 "TownLispModel" "fault" "I") (by decide +kernel)) (fun _ h9 => h9) rfl (by decide +kernel) rfl rfl (Nat.le_of_ble_eq_true rfl) dX4_as_2 (fun H locs hP hD hS => ?_)
  have hP : va_P D vwCl (wM ad cI (M_fault' M (0 : Int32))) H := hP
  have hD : va_D A (wM ad cI (M_fault' M (0 : Int32))) := hD
  refine lv_aload_n hx hb dX4_as_5 rfl (lv_at hl 0 rfl) ?_
  refine lv_iload_n hx hb dX4_as_6 rfl (lv_at hl 1 rfl) ?_
  refine kc_V (As := [.int x1]) (rest := []) B (c_X4_isPerson l D cI cO tF ad (M_fault' M (0 : Int32)) x1 ) (cwV 1 hts gX4_as_X4_isPerson rfl rfl rfl (by decide +kernel) ⟨Nat.le_of_ble_eq_true rfl, Nat.le_of_ble_eq_true rfl⟩) hP hD hS [0, 1, 2, 3, 4, 5, 6, 7, 8, 9, 10, 11, 12] wM_subA (by decide) (w' := wM ad cI (M_fault' M (0 : Int32))) (wM_setA _) (wM_fst _) 0 4 rfl rfl rfl rfl hl.1 rfl (Nat.le_of_ble_eq_true rfl) dX4_as_7 ⟨Nat.zero_le _, Nat.zero_le _⟩ (fun H locs hP hD hS => ?_)
  have hD : va_D A (wM ad cI (M_fault' M (0 : Int32))) := hD
  refine lv_if_ne (tgt := 15) hx hb dX4_as_10 (by decide) (fun c_10 => ?_) (fun c_10 => ?_)
  · refine lv_iload_n hx hb dX4_as_15 rfl (lv_at hl 2 rfl) ?_
    refine lv_iconst (v := (0 : Int32)) hx hb dX4_as_16 (by decide) ?_
    refine lv_iconst (v := (2 : Int32)) hx hb dX4_as_17 (by decide) ?_
    refine kc_S (As := [.int x2, .int (0 : Int32), .int (2 : Int32)]) (rest := []) B (c_X4_within l D cI cO tF x2 (0 : Int32) (2 : Int32) ) (va_cwS 3 hts gX4_as_X4_within rfl rfl rfl (by decide +kernel) ⟨Nat.le_of_ble_eq_true rfl, Nat.le_of_ble_eq_true rfl⟩) hP hD hS [] rfl (by decide) (w' := wM ad cI (M_fault' M (0 : Int32))) rfl rfl rfl hl.1 rfl (Nat.le_of_ble_eq_true rfl) dX4_as_18 ⟨Nat.zero_le _, Nat.zero_le _⟩ (fun H locs hP hD hS => ?_)
    have hD : va_D A (wM ad cI (M_fault' M (0 : Int32))) := hD
    refine lv_if_ne (tgt := 27) hx hb dX4_as_21 (by decide) (fun c_21 => ?_) (fun c_21 => ?_)
    · refine lv_aload_n hx hb dX4_as_27 rfl (lv_at hl 0 rfl) ?_
      refine va_get (D := D) (ci := 4) (v := .ref (ad 4)) (C := RX4) (T := TX4) (N := 24) hx hb hts iw_X4_as_4 hown hK hP 0 rfl rfl 9 (by decide) (hts (.fieldLink RX4 19 "TownLispModel" "kind" "[I") (by decide +kernel)) (fun _ h9 => h9) rfl dX4_as_28 ?_
      refine lv_iload_n hx hb dX4_as_31 rfl (lv_at hl 1 rfl) ?_
      refine va_iald hx hb hK hP 4 0 rfl rfl (mi_in hn c_10) dX4_as_32 ?_
      refine lv_iload_n hx hb dX4_as_33 rfl (lv_at hl 2 rfl) ?_
      refine lv_icmp_lt (tgt := 41) hx hb dX4_as_34 (by decide) (fun c_34 => ?_) (fun c_34 => ?_)
      · refine lv_aload_n hx hb dX4_as_41 rfl (lv_at hl 0 rfl) ?_
        refine lv_iconst (v := (2 : Int32)) hx hb dX4_as_42 (by decide) ?_
        refine kc_V (As := [.int (2 : Int32)]) (rest := []) B (c_X4_fails l D cI cO tF ad (M_fault' M (0 : Int32)) (2 : Int32) ) (cwV 1 hts gX4_as_X4_fails rfl rfl rfl (by decide +kernel) ⟨Nat.le_of_ble_eq_true rfl, Nat.le_of_ble_eq_true rfl⟩) hP hD hS [0, 1, 2, 3, 4, 5, 6, 7, 8, 9, 10, 11, 12] wM_subA (by decide) (w' := wM ad cI ((f_X4_fails (M_fault' M (0 : Int32)) (2 : Int32)).2)) (wM_setA _) (wM_fst _) 0 4 rfl rfl rfl rfl hl.1 rfl (Nat.le_of_ble_eq_true rfl) dX4_as_43 ⟨Nat.zero_le _, Nat.zero_le _⟩ (fun H locs hP hD hS => ?_)
        have hD : va_D A (wM ad cI ((f_X4_fails (M_fault' M (0 : Int32)) (2 : Int32)).2)) := hD
        have hF : f_X4_as M x1 x2 = ((f_X4_fails (M_fault' M (0 : Int32)) (2 : Int32)).1, (f_X4_fails (M_fault' M (0 : Int32)) (2 : Int32)).2) := by rw [f_X4_as, if_neg c_10, if_neg c_21, if_pos c_34]
        rw [hF]
        exact kr_i B hP hS rfl rfl dX4_as_46
      · refine lv_iconst (v := (1 : Int32)) hx hb dX4_as_37 (by decide) ?_
        refine lv_goto (tgt := 46) hx hb dX4_as_38 (by decide) ?_
        have hF : f_X4_as M x1 x2 = ((1 : Int32), (M_fault' M (0 : Int32))) := by rw [f_X4_as, if_neg c_10, if_neg c_21, if_neg c_34]
        rw [hF]
        exact kr_i B hP hS rfl rfl dX4_as_46
    · refine lv_bipush (v := (-2 : Int32)) hx hb dX4_as_24 (by decide) ?_
      have hF : f_X4_as M x1 x2 = ((-2 : Int32), (M_fault' M (0 : Int32))) := by rw [f_X4_as, if_neg c_10, if_pos c_21]
      rw [hF]
      exact kr_i B hP hS rfl rfl dX4_as_26
  · refine lv_iconst (v := (-1 : Int32)) hx hb dX4_as_13 (by decide) ?_
    have hF : f_X4_as M x1 x2 = ((-1 : Int32), (M_fault' M (0 : Int32))) := by rw [f_X4_as, if_pos c_10]
    rw [hF]
    exact kr_i B hP hS rfl rfl dX4_as_14
def f_X4_trace (M : MS) : Int32 := (M_trace M)
theorem iw_X4_trace_4 : ∀ w ∈ wsX40, w ∈ wsX4_trace := fun _ h => List.mem_cons_of_mem _ (List.mem_append_right _ h)
set_option maxHeartbeats 4000000 in
set_option maxRecDepth 100000 in
theorem c_X4_trace (l : Launch) (D : va_G) (cI cO : ClassId) (tF : Nat) (ad : Nat → Nat) (M : MS) : Ct l yX4_trace wsX4_trace ({ frames := 0, cells := 0, slots := 0, locals := 0 }) D cI cO tF [.ref (ad 0)] (wM ad cI M) (some (.int (f_X4_trace M))) (wM ad cI M) := by
  refine Ct.of (cc := cX4_trace) (maxL := 1) (ret := (some .int)) (own := RX4) (by decide) rfl rfl (Nat.le_of_ble_eq_true rfl) ?_
  intro p e s m args below meth c A ls B hP hD hS hl
  obtain ⟨hx, hb, hret, hml, hts, hown, hlocks, hE, hA⟩ := id B
  have hK := hE.1
  have hl : lv_has ls 1 [(0, .ref (ad 0))] := hl
  refine lv_aload_n hx hb dX4_trace_0 rfl (lv_at hl 0 rfl) ?_
  refine va_get (D := D) (ci := 4) (v := .int (M_trace M)) (C := RX4) (T := TX4) (N := 24) hx hb hts iw_X4_trace_4 hown hK hP 0 rfl rfl 1 (by decide) (hts (.fieldLink RX4 194 "TownLispModel" "trace" "I") (by decide +kernel)) (fun _ h9 => h9) rfl dX4_trace_1 ?_
  have hF : f_X4_trace M = (M_trace M) := by rw [f_X4_trace]
  rw [hF]
  exact kr_i B hP hS rfl rfl dX4_trace_4
def f_X4_fault (M : MS) : Int32 := (M_fault M)
theorem iw_X4_fault_4 : ∀ w ∈ wsX40, w ∈ wsX4_fault := fun _ h => List.mem_cons_of_mem _ (List.mem_append_right _ h)
set_option maxHeartbeats 4000000 in
set_option maxRecDepth 100000 in
theorem c_X4_fault (l : Launch) (D : va_G) (cI cO : ClassId) (tF : Nat) (ad : Nat → Nat) (M : MS) : Ct l yX4_fault wsX4_fault ({ frames := 0, cells := 0, slots := 0, locals := 0 }) D cI cO tF [.ref (ad 0)] (wM ad cI M) (some (.int (f_X4_fault M))) (wM ad cI M) := by
  refine Ct.of (cc := cX4_fault) (maxL := 1) (ret := (some .int)) (own := RX4) (by decide) rfl rfl (Nat.le_of_ble_eq_true rfl) ?_
  intro p e s m args below meth c A ls B hP hD hS hl
  obtain ⟨hx, hb, hret, hml, hts, hown, hlocks, hE, hA⟩ := id B
  have hK := hE.1
  have hl : lv_has ls 1 [(0, .ref (ad 0))] := hl
  refine lv_aload_n hx hb dX4_fault_0 rfl (lv_at hl 0 rfl) ?_
  refine va_get (D := D) (ci := 4) (v := .int (M_fault M)) (C := RX4) (T := TX4) (N := 24) hx hb hts iw_X4_fault_4 hown hK hP 0 rfl rfl 0 (by decide) (hts (.fieldLink RX4 46 "TownLispModel" "fault" "I") (by decide +kernel)) (fun _ h9 => h9) rfl dX4_fault_1 ?_
  have hF : f_X4_fault M = (M_fault M) := by rw [f_X4_fault]
  rw [hF]
  exact kr_i B hP hS rfl rfl dX4_fault_4
def f_X4_many (M : MS) (x1 : Int32) : Int32 := (if x1 = (0 : Int32) then (M_people M) else (if x1 = (1 : Int32) then (M_tin M) else (if x1 = (2 : Int32) then (f_X4_size (M_isIn M)) else (if x1 = (3 : Int32) then (M_days M) else (if x1 = (4 : Int32) then (M_readings M) else (-2 : Int32))))))
theorem iw_X4_many_4 : ∀ w ∈ wsX40, w ∈ wsX4_many := fun _ h => List.mem_cons_of_mem _ (List.mem_append_right _ h)
set_option maxHeartbeats 4000000 in
set_option maxRecDepth 100000 in
theorem c_X4_many (l : Launch) (D : va_G) (cI cO : ClassId) (tF : Nat) (ad : Nat → Nat) (M : MS) (x1 : Int32) : Ct l yX4_many wsX4_many ({ frames := 1, cells := 0, slots := 0, locals := 22 }) D cI cO tF [.ref (ad 0), .int x1] (wM ad cI M) (some (.int (f_X4_many M x1))) (wM ad cI M) := by
  refine Ct.of (cc := cX4_many) (maxL := 2) (ret := (some .int)) (own := RX4) (by decide) rfl rfl (Nat.le_of_ble_eq_true rfl) ?_
  intro p e s m args below meth c A ls B hP hD hS hl
  obtain ⟨hx, hb, hret, hml, hts, hown, hlocks, hE, hA⟩ := id B
  have hK := hE.1
  have hl : lv_has ls 2 [(0, .ref (ad 0)), (1, .int x1)] := hl
  refine lv_iload_n hx hb dX4_many_0 rfl (lv_at hl 1 rfl) ?_
  by_cases c_1_0 : x1 = (0 : Int32)
  · refine lv_tableIn (off := 35) (tgt := 36) hx hb dX4_many_1 (by rw [c_1_0]; decide) (by rw [c_1_0]; decide) (by rw [c_1_0]; rfl) (by decide) ?_
    refine lv_aload_n hx hb dX4_many_36 rfl (lv_at hl 0 rfl) ?_
    refine va_get (D := D) (ci := 4) (v := .int (M_people M)) (C := RX4) (T := TX4) (N := 24) hx hb hts iw_X4_many_4 hown hK hP 0 rfl rfl 5 (by decide) (hts (.fieldLink RX4 56 "TownLispModel" "people" "I") (by decide +kernel)) (fun _ h9 => h9) rfl dX4_many_37 ?_
    have hF : f_X4_many M x1 = (M_people M) := by rw [f_X4_many, if_pos c_1_0]
    rw [hF]
    exact kr_i B hP hS rfl rfl dX4_many_40
  by_cases c_1_1 : x1 = (1 : Int32)
  · refine lv_tableIn (off := 40) (tgt := 41) hx hb dX4_many_1 (by rw [c_1_1]; decide) (by rw [c_1_1]; decide) (by rw [c_1_1]; rfl) (by decide) ?_
    refine lv_aload_n hx hb dX4_many_41 rfl (lv_at hl 0 rfl) ?_
    refine va_get (D := D) (ci := 4) (v := .int (M_tin M)) (C := RX4) (T := TX4) (N := 24) hx hb hts iw_X4_many_4 hown hK hP 0 rfl rfl 6 (by decide) (hts (.fieldLink RX4 90 "TownLispModel" "tin" "I") (by decide +kernel)) (fun _ h9 => h9) rfl dX4_many_42 ?_
    have hF : f_X4_many M x1 = (M_tin M) := by rw [f_X4_many, if_neg c_1_0, if_pos c_1_1]
    rw [hF]
    exact kr_i B hP hS rfl rfl dX4_many_45
  by_cases c_1_2 : x1 = (2 : Int32)
  · refine lv_tableIn (off := 45) (tgt := 46) hx hb dX4_many_1 (by rw [c_1_2]; decide) (by rw [c_1_2]; decide) (by rw [c_1_2]; rfl) (by decide) ?_
    refine lv_aload_n hx hb dX4_many_46 rfl (lv_at hl 0 rfl) ?_
    refine va_get (D := D) (ci := 4) (v := .int (M_isIn M)) (C := RX4) (T := TX4) (N := 24) hx hb hts iw_X4_many_4 hown hK hP 0 rfl rfl 7 (by decide) (hts (.fieldLink RX4 96 "TownLispModel" "isIn" "I") (by decide +kernel)) (fun _ h9 => h9) rfl dX4_many_47 ?_
    refine kc_S (As := [.int (M_isIn M)]) (rest := []) B (c_X4_size l D cI cO tF (M_isIn M) ) (va_cwS 1 hts gX4_many_X4_size rfl rfl rfl (by decide +kernel) ⟨Nat.le_of_ble_eq_true rfl, Nat.le_of_ble_eq_true rfl⟩) hP hD hS [] rfl (by decide) (w' := wM ad cI M) rfl rfl rfl hl.1 rfl (Nat.le_of_ble_eq_true rfl) dX4_many_50 ⟨Nat.zero_le _, Nat.zero_le _⟩ (fun H locs hP hD hS => ?_)
    have hD : va_D A (wM ad cI M) := hD
    have hF : f_X4_many M x1 = (f_X4_size (M_isIn M)) := by rw [f_X4_many, if_neg c_1_0, if_neg c_1_1, if_pos c_1_2]
    rw [hF]
    exact kr_i B hP hS rfl rfl dX4_many_53
  by_cases c_1_3 : x1 = (3 : Int32)
  · refine lv_tableIn (off := 53) (tgt := 54) hx hb dX4_many_1 (by rw [c_1_3]; decide) (by rw [c_1_3]; decide) (by rw [c_1_3]; rfl) (by decide) ?_
    refine lv_aload_n hx hb dX4_many_54 rfl (lv_at hl 0 rfl) ?_
    refine va_get (D := D) (ci := 4) (v := .int (M_days M)) (C := RX4) (T := TX4) (N := 24) hx hb hts iw_X4_many_4 hown hK hP 0 rfl rfl 8 (by decide) (hts (.fieldLink RX4 99 "TownLispModel" "days" "I") (by decide +kernel)) (fun _ h9 => h9) rfl dX4_many_55 ?_
    have hF : f_X4_many M x1 = (M_days M) := by rw [f_X4_many, if_neg c_1_0, if_neg c_1_1, if_neg c_1_2, if_pos c_1_3]
    rw [hF]
    exact kr_i B hP hS rfl rfl dX4_many_58
  by_cases c_1_4 : x1 = (4 : Int32)
  · refine lv_tableIn (off := 58) (tgt := 59) hx hb dX4_many_1 (by rw [c_1_4]; decide) (by rw [c_1_4]; decide) (by rw [c_1_4]; rfl) (by decide) ?_
    refine lv_aload_n hx hb dX4_many_59 rfl (lv_at hl 0 rfl) ?_
    refine va_get (D := D) (ci := 4) (v := .int (M_readings M)) (C := RX4) (T := TX4) (N := 24) hx hb hts iw_X4_many_4 hown hK hP 0 rfl rfl 20 (by decide) (hts (.fieldLink RX4 102 "TownLispModel" "readings" "I") (by decide +kernel)) (fun _ h9 => h9) rfl dX4_many_60 ?_
    have hF : f_X4_many M x1 = (M_readings M) := by rw [f_X4_many, if_neg c_1_0, if_neg c_1_1, if_neg c_1_2, if_neg c_1_3, if_pos c_1_4]
    rw [hF]
    exact kr_i B hP hS rfl rfl dX4_many_63
  refine lv_tableOut (tgt := 64) hx hb dX4_many_1 (sw_out5 c_1_0 c_1_1 c_1_2 c_1_3 c_1_4) (by decide) ?_
  refine lv_bipush (v := (-2 : Int32)) hx hb dX4_many_64 (by decide) ?_
  have hF : f_X4_many M x1 = (-2 : Int32) := by rw [f_X4_many, if_neg c_1_0, if_neg c_1_1, if_neg c_1_2, if_neg c_1_3, if_neg c_1_4]
  rw [hF]
  exact kr_i B hP hS rfl rfl dX4_many_66
def f_X4_rounds (M : MS) (x1 : Int32) (x2 : Int32) : Int32 := (if (f_X4_within x1 (1 : Int32) (9 : Int32)) = 0 then (-2 : Int32) else (if (f_X4_within x2 (0 : Int32) (1 : Int32)) = 0 then (-2 : Int32) else (if (M_people M) = 0 then (-3 : Int32) else (if x2 = 0 then (if ((M_tin M) - (M_tin M) / (x1 + (1 : Int32)) * (x1 + (1 : Int32))) = 0 then (0 : Int32) else (1 : Int32)) else (if ((M_tin M) - (M_tin M) / (x1 + (1 : Int32)) * (x1 + (1 : Int32))) = 0 then (-9 : Int32) else ((M_tin M) - (M_tin M) / (x1 + (1 : Int32)) * (x1 + (1 : Int32))))))))
theorem iw_X4_rounds_4 : ∀ w ∈ wsX40, w ∈ wsX4_rounds := fun _ h => List.mem_cons_of_mem _ (List.mem_append_right _ h)
set_option maxHeartbeats 4000000 in
set_option maxRecDepth 100000 in
theorem c_X4_rounds (l : Launch) (D : va_G) (cI cO : ClassId) (tF : Nat) (ad : Nat → Nat) (M : MS) (x1 : Int32) (x2 : Int32) : Ct l yX4_rounds wsX4_rounds ({ frames := 1, cells := 0, slots := 0, locals := 22 }) D cI cO tF [.ref (ad 0), .int x1, .int x2] (wM ad cI M) (some (.int (f_X4_rounds M x1 x2))) (wM ad cI M) := by
  refine Ct.of (cc := cX4_rounds) (maxL := 4) (ret := (some .int)) (own := RX4) (by decide) rfl rfl (Nat.le_of_ble_eq_true rfl) ?_
  intro p e s m args below meth c A ls B hP hD hS hl
  obtain ⟨hx, hb, hret, hml, hts, hown, hlocks, hE, hA⟩ := id B
  have hK := hE.1
  have hl : lv_has ls 4 [(0, .ref (ad 0)), (1, .int x1), (2, .int x2)] := hl
  refine lv_iload_n hx hb dX4_rounds_0 rfl (lv_at hl 1 rfl) ?_
  refine lv_iconst (v := (1 : Int32)) hx hb dX4_rounds_1 (by decide) ?_
  refine lv_bipush (v := (9 : Int32)) hx hb dX4_rounds_2 (by decide) ?_
  refine kc_S (As := [.int x1, .int (1 : Int32), .int (9 : Int32)]) (rest := []) B (c_X4_within l D cI cO tF x1 (1 : Int32) (9 : Int32) ) (va_cwS 3 hts gX4_rounds_X4_within rfl rfl rfl (by decide +kernel) ⟨Nat.le_of_ble_eq_true rfl, Nat.le_of_ble_eq_true rfl⟩) hP hD hS [] rfl (by decide) (w' := wM ad cI M) rfl rfl rfl hl.1 rfl (Nat.le_of_ble_eq_true rfl) dX4_rounds_4 ⟨Nat.zero_le _, Nat.zero_le _⟩ (fun H locs hP hD hS => ?_)
  have hD : va_D A (wM ad cI M) := hD
  refine lv_if_eq (tgt := 19) hx hb dX4_rounds_7 (by decide) (fun c_7 => ?_) (fun c_7 => ?_)
  · refine lv_bipush (v := (-2 : Int32)) hx hb dX4_rounds_19 (by decide) ?_
    have hF : f_X4_rounds M x1 x2 = (-2 : Int32) := by rw [f_X4_rounds, if_pos c_7]
    rw [hF]
    exact kr_i B hP hS rfl rfl dX4_rounds_21
  · refine lv_iload_n hx hb dX4_rounds_10 rfl (lv_at hl 2 rfl) ?_
    refine lv_iconst (v := (0 : Int32)) hx hb dX4_rounds_11 (by decide) ?_
    refine lv_iconst (v := (1 : Int32)) hx hb dX4_rounds_12 (by decide) ?_
    refine kc_S (As := [.int x2, .int (0 : Int32), .int (1 : Int32)]) (rest := []) B (c_X4_within l D cI cO tF x2 (0 : Int32) (1 : Int32) ) (va_cwS 3 hts gX4_rounds_X4_within rfl rfl rfl (by decide +kernel) ⟨Nat.le_of_ble_eq_true rfl, Nat.le_of_ble_eq_true rfl⟩) hP hD hS [] rfl (by decide) (w' := wM ad cI M) rfl rfl rfl hl.1 rfl (Nat.le_of_ble_eq_true rfl) dX4_rounds_13 ⟨Nat.zero_le _, Nat.zero_le _⟩ (fun H locs hP hD hS => ?_)
    have hD : va_D A (wM ad cI M) := hD
    refine lv_if_ne (tgt := 22) hx hb dX4_rounds_16 (by decide) (fun c_16 => ?_) (fun c_16 => ?_)
    · refine lv_aload_n hx hb dX4_rounds_22 rfl (lv_at hl 0 rfl) ?_
      refine va_get (D := D) (ci := 4) (v := .int (M_people M)) (C := RX4) (T := TX4) (N := 24) hx hb hts iw_X4_rounds_4 hown hK hP 0 rfl rfl 5 (by decide) (hts (.fieldLink RX4 56 "TownLispModel" "people" "I") (by decide +kernel)) (fun _ h9 => h9) rfl dX4_rounds_23 ?_
      refine lv_if_ne (tgt := 32) hx hb dX4_rounds_26 (by decide) (fun c_26 => ?_) (fun c_26 => ?_)
      · refine lv_aload_n hx hb dX4_rounds_32 rfl (lv_at hl 0 rfl) ?_
        refine va_get (D := D) (ci := 4) (v := .int (M_tin M)) (C := RX4) (T := TX4) (N := 24) hx hb hts iw_X4_rounds_4 hown hK hP 0 rfl rfl 6 (by decide) (hts (.fieldLink RX4 90 "TownLispModel" "tin" "I") (by decide +kernel)) (fun _ h9 => h9) rfl dX4_rounds_33 ?_
        refine lv_iload_n hx hb dX4_rounds_36 rfl (lv_at hl 1 rfl) ?_
        refine lv_iconst (v := (1 : Int32)) hx hb dX4_rounds_37 (by decide) ?_
        refine lv_iadd hx hb dX4_rounds_38 ?_
        refine lv_irem hx hb dX4_rounds_39 (rd_nz2 c_7) ?_
        refine lv_istore_n (lv' := [(3, .int ((M_tin M) - (M_tin M) / (x1 + (1 : Int32)) * (x1 + (1 : Int32)))), (0, .ref (ad 0)), (1, .int x1), (2, .int x2)]) hx hb dX4_rounds_40 rfl hl (by decide) rfl (fun ls hl => ?_)
        refine lv_iload_n hx hb dX4_rounds_41 rfl (lv_at hl 3 rfl) ?_
        refine lv_if_ne (tgt := 57) hx hb dX4_rounds_42 (by decide) (fun c_42 => ?_) (fun c_42 => ?_)
        · refine lv_iload_n hx hb dX4_rounds_57 rfl (lv_at hl 0 rfl) ?_
          refine lv_if_ne (tgt := 66) hx hb dX4_rounds_58 (by decide) (fun c_58 => ?_) (fun c_58 => ?_)
          · refine lv_iload_n hx hb dX4_rounds_66 rfl (lv_at hl 0 rfl) ?_
            have hF : f_X4_rounds M x1 x2 = ((M_tin M) - (M_tin M) / (x1 + (1 : Int32)) * (x1 + (1 : Int32))) := by rw [f_X4_rounds, if_neg c_7, if_neg c_16, if_neg c_26, if_neg c_42, if_neg c_58]
            rw [hF]
            exact kr_i B hP hS rfl rfl dX4_rounds_67
          · refine lv_bipush (v := (-9 : Int32)) hx hb dX4_rounds_61 (by decide) ?_
            refine lv_goto (tgt := 67) hx hb dX4_rounds_63 (by decide) ?_
            have hF : f_X4_rounds M x1 x2 = (-9 : Int32) := by rw [f_X4_rounds, if_neg c_7, if_neg c_16, if_neg c_26, if_neg c_42, if_pos c_58]
            rw [hF]
            exact kr_i B hP hS rfl rfl dX4_rounds_67
        · refine lv_iload_n hx hb dX4_rounds_45 rfl (lv_at hl 0 rfl) ?_
          refine lv_if_ne (tgt := 53) hx hb dX4_rounds_46 (by decide) (fun c_46 => ?_) (fun c_46 => ?_)
          · refine lv_iconst (v := (1 : Int32)) hx hb dX4_rounds_53 (by decide) ?_
            refine lv_goto (tgt := 67) hx hb dX4_rounds_54 (by decide) ?_
            have hF : f_X4_rounds M x1 x2 = (1 : Int32) := by rw [f_X4_rounds, if_neg c_7, if_neg c_16, if_neg c_26, if_pos c_42, if_neg c_46]
            rw [hF]
            exact kr_i B hP hS rfl rfl dX4_rounds_67
          · refine lv_iconst (v := (0 : Int32)) hx hb dX4_rounds_49 (by decide) ?_
            refine lv_goto (tgt := 67) hx hb dX4_rounds_50 (by decide) ?_
            have hF : f_X4_rounds M x1 x2 = (0 : Int32) := by rw [f_X4_rounds, if_neg c_7, if_neg c_16, if_neg c_26, if_pos c_42, if_pos c_46]
            rw [hF]
            exact kr_i B hP hS rfl rfl dX4_rounds_67
      · refine lv_bipush (v := (-3 : Int32)) hx hb dX4_rounds_29 (by decide) ?_
        have hF : f_X4_rounds M x1 x2 = (-3 : Int32) := by rw [f_X4_rounds, if_neg c_7, if_neg c_16, if_pos c_26]
        rw [hF]
        exact kr_i B hP hS rfl rfl dX4_rounds_31
    · refine lv_bipush (v := (-2 : Int32)) hx hb dX4_rounds_19 (by decide) ?_
      have hF : f_X4_rounds M x1 x2 = (-2 : Int32) := by rw [f_X4_rounds, if_neg c_7, if_pos c_16]
      rw [hF]
      exact kr_i B hP hS rfl rfl dX4_rounds_21
