def fL_X4_areSo_2 (M : MS) : Nat → Int32 → Int32
  | 0, _ => 0
  | k + 1, x1 => (if (M_readings M) ≤ x1 then (1 : Int32) else (if (f_X4_saysBy M ((M_readWho M) x1.toNatClampNeg) ((M_readParts M) x1.toNatClampNeg)) = ((M_readSaid M) x1.toNatClampNeg) then fL_X4_areSo_2 M k (x1 + (1 : Int32)) else (0 : Int32)))
def f_X4_areSo (M : MS) : Int32 := fL_X4_areSo_2 M 9 (0 : Int32)
theorem iw_X4_areSo_4 : ∀ w ∈ wsX40, w ∈ wsX4_areSo := fun _ h => List.mem_cons_of_mem _ (List.mem_append_right _ h)
set_option maxHeartbeats 4000000 in
set_option maxRecDepth 100000 in
theorem L_X4_areSo_2 {p : Program} (l : Launch) {e : Env} {s : State} {m : MethodId} {args : Array Value} {below : List Frame} {meth : Method} {c : Code} {A : Nat → Prop} (D : va_G) (cI cO : ClassId) (tF : Nat) (ad : Nat → Nat) (M : MS) (hr : (M_readings M).toInt ≤ 8) (hw : ∀ r : Nat, (r : Int) < (M_readings M).toInt → vp_in (M_readWho M r) 6 ∧ ¬ (M_thick M) (M_readWho M r).toNatClampNeg = 0) (B : Bx p s m args meth c cX4_areSo 2 (some .boolean) wsX4_areSo RX4 D cI cO tF A) : ∀ (k : Nat) (x1 : Int32), (0 ≤ x1.toInt) → (((M_readings M).toInt - x1.toInt).toNat < k) → ∀ (H : Heap) (locs : List Loc), va_P D vwCl (wM ad cI M) H → va_D A (wM ad cI M) → va_S A s.heap H locs → ∀ ls : Array Slot, lv_has ls 2 [(0, .ref (ad 0)), (1, .int x1)] → W p l e ({ frames := 1, cells := 0, slots := 0, locals := 23 }) s m args below meth c H locs 0 0 (MQ below (Qp D (some (.int (fL_X4_areSo_2 M k x1))) (wM ad cI M) A) args s 0 0 A) (F0 m 2 ls []) := by
  obtain ⟨hx, hb, hret, hml, hts, hown, hlocks, hE, hA⟩ := id B
  have hK := hE.1
  intro k
  induction k with
  | zero =>
    intro x1 h0 hk
    exact absurd hk (Nat.not_lt_zero _)
  | succ k ih =>
    intro x1 h0 hk H locs hP hD hS ls hl
    refine lv_iload_n hx hb dX4_areSo_2 rfl (lv_at hl 1 rfl) ?_
    refine lv_aload_n hx hb dX4_areSo_3 rfl (lv_at hl 0 rfl) ?_
    refine va_get (D := D) (ci := 4) (v := .int (M_readings M)) (C := RX4) (T := TX4) (N := 24) hx hb hts iw_X4_areSo_4 hown hK hP 0 rfl rfl 20 (by decide) (hts (.fieldLink RX4 102 "TownLispModel" "readings" "I") (by decide +kernel)) (fun _ h9 => h9) rfl dX4_areSo_4 ?_
    refine lv_icmp_ge (tgt := 43) hx hb dX4_areSo_7 (by decide) (fun c_7 => ?_) (fun c_7 => ?_)
    · refine lv_iconst (v := (1 : Int32)) hx hb dX4_areSo_43 (by decide) ?_
      have hF : fL_X4_areSo_2 M (k + 1) x1 = (1 : Int32) := by rw [fL_X4_areSo_2, if_pos c_7]
      rw [hF]
      exact kr_z B hP hS rfl rfl (Or.inr rfl) dX4_areSo_44
    · refine lv_aload_n hx hb dX4_areSo_10 rfl (lv_at hl 0 rfl) ?_
      refine lv_aload_n hx hb dX4_areSo_11 rfl (lv_at hl 0 rfl) ?_
      refine va_get (D := D) (ci := 4) (v := .ref (ad 10)) (C := RX4) (T := TX4) (N := 24) hx hb hts iw_X4_areSo_4 hown hK hP 0 rfl rfl 21 (by decide) (hts (.fieldLink RX4 37 "TownLispModel" "readWho" "[I") (by decide +kernel)) (fun _ h9 => h9) rfl dX4_areSo_12 ?_
      refine lv_iload_n hx hb dX4_areSo_15 rfl (lv_at hl 1 rfl) ?_
      refine va_iald hx hb hK hP 10 0 rfl rfl (lp_in h0 hr c_7) dX4_areSo_16 ?_
      refine lv_aload_n hx hb dX4_areSo_17 rfl (lv_at hl 0 rfl) ?_
      refine va_get (D := D) (ci := 4) (v := .ref (ad 11)) (C := RX4) (T := TX4) (N := 24) hx hb hts iw_X4_areSo_4 hown hK hP 0 rfl rfl 22 (by decide) (hts (.fieldLink RX4 40 "TownLispModel" "readParts" "[I") (by decide +kernel)) (fun _ h9 => h9) rfl dX4_areSo_18 ?_
      refine lv_iload_n hx hb dX4_areSo_21 rfl (lv_at hl 1 rfl) ?_
      refine va_iald hx hb hK hP 11 0 rfl rfl (lp_in h0 hr c_7) dX4_areSo_22 ?_
      refine kc_V (As := [.int ((M_readWho M) x1.toNatClampNeg), .int ((M_readParts M) x1.toNatClampNeg)]) (rest := []) B (c_X4_saysBy l D cI cO tF ad M ((M_readWho M) x1.toNatClampNeg) ((M_readParts M) x1.toNatClampNeg) ((hw _ (cl_lt h0 c_7)).1) ((hw _ (cl_lt h0 c_7)).2)) (cwV 2 hts gX4_areSo_X4_saysBy rfl rfl rfl (by decide +kernel) ⟨Nat.le_of_ble_eq_true rfl, Nat.le_of_ble_eq_true rfl⟩) hP hD hS [0, 1, 2, 3, 4, 5, 6, 7, 8, 9, 10, 11, 12] wM_subA (by decide) (w' := wM ad cI M) (wM_setA _) (wM_fst _) 0 4 rfl rfl rfl rfl hl.1 rfl (Nat.le_of_ble_eq_true rfl) dX4_areSo_23 ⟨Nat.zero_le _, Nat.zero_le _⟩ (fun H locs hP hD hS => ?_)
      have hD : va_D A (wM ad cI M) := hD
      refine lv_aload_n hx hb dX4_areSo_26 rfl (lv_at hl 0 rfl) ?_
      refine va_get (D := D) (ci := 4) (v := .ref (ad 12)) (C := RX4) (T := TX4) (N := 24) hx hb hts iw_X4_areSo_4 hown hK hP 0 rfl rfl 23 (by decide) (hts (.fieldLink RX4 43 "TownLispModel" "readSaid" "[I") (by decide +kernel)) (fun _ h9 => h9) rfl dX4_areSo_27 ?_
      refine lv_iload_n hx hb dX4_areSo_30 rfl (lv_at hl 1 rfl) ?_
      refine va_iald hx hb hK hP 12 0 rfl rfl (lp_in h0 hr c_7) dX4_areSo_31 ?_
      refine lv_icmp_eq (tgt := 37) hx hb dX4_areSo_32 (by decide) (fun c_32 => ?_) (fun c_32 => ?_)
      · refine lv_iinc (v := (x1 + (1 : Int32))) (lv' := [(1, .int (x1 + (1 : Int32))), (0, .ref (ad 0))]) hx hb dX4_areSo_37 hl (k := 1) rfl rfl (by decide) rfl (fun ls hl => ?_)
        refine lv_goto (tgt := 2) hx hb dX4_areSo_40 (by decide) ?_
        have hF : fL_X4_areSo_2 M (k + 1) x1 = fL_X4_areSo_2 M k (x1 + (1 : Int32)) := by rw [fL_X4_areSo_2, if_neg c_7, if_pos c_32]
        rw [hF]
        exact ih (x1 + (1 : Int32)) (lp_pre h0 c_7) (lp_mu h0 c_7 hk) _ _ hP hD hS ls (lv_sub hl [1, 0] rfl)
      · refine lv_iconst (v := (0 : Int32)) hx hb dX4_areSo_35 (by decide) ?_
        have hF : fL_X4_areSo_2 M (k + 1) x1 = (0 : Int32) := by rw [fL_X4_areSo_2, if_neg c_7, if_neg c_32]
        rw [hF]
        exact kr_z B hP hS rfl rfl (Or.inl rfl) dX4_areSo_36
set_option maxHeartbeats 4000000 in
set_option maxRecDepth 100000 in
theorem c_X4_areSo (l : Launch) (D : va_G) (cI cO : ClassId) (tF : Nat) (ad : Nat → Nat) (M : MS) (hr : (M_readings M).toInt ≤ 8) (hw : ∀ r : Nat, (r : Int) < (M_readings M).toInt → vp_in (M_readWho M r) 6 ∧ ¬ (M_thick M) (M_readWho M r).toNatClampNeg = 0) : Ct l yX4_areSo wsX4_areSo ({ frames := 1, cells := 0, slots := 0, locals := 23 }) D cI cO tF [.ref (ad 0)] (wM ad cI M) (some (.int (f_X4_areSo M))) (wM ad cI M) := by
  refine Ct.of (cc := cX4_areSo) (maxL := 2) (ret := (some .boolean)) (own := RX4) (by decide) rfl rfl (Nat.le_of_ble_eq_true rfl) ?_
  intro p e s m args below meth c A ls B hP hD hS hl
  obtain ⟨hx, hb, hret, hml, hts, hown, hlocks, hE, hA⟩ := id B
  have hK := hE.1
  have hl : lv_has ls 2 [(0, .ref (ad 0))] := hl
  refine lv_iconst (v := (0 : Int32)) hx hb dX4_areSo_0 (by decide) ?_
  refine lv_istore_n (lv' := [(1, .int (0 : Int32)), (0, .ref (ad 0))]) hx hb dX4_areSo_1 rfl hl (by decide) rfl (fun ls hl => ?_)
  have hF : f_X4_areSo M = fL_X4_areSo_2 M 9 (0 : Int32) := by rw [f_X4_areSo]
  rw [hF]
  exact L_X4_areSo_2 l D cI cO tF ad M  hr hw B  9 (0 : Int32) (Int.le_refl _) (by rw [show (0 : Int32).toInt = 0 from rfl]; omega) _ _ hP hD hS ls (lv_sub hl [1, 0] rfl)
def fL_X4_ears_22 (M : MS) (x1 : Int32) (x2 : Int32) : Nat → Int32 → Int32 → (Nat → Int32) → Int32 × MS
  | 0, _, _, v_thick => (0, (M_thick' M v_thick))
  | k + 1, x3, x4, v_thick => (if (9 : Int32) < x4 then (x3, (M_thick' M (upd v_thick x1.toNatClampNeg x2))) else (if (f_X4_areSo (M_thick' M (upd v_thick x1.toNatClampNeg x4))) = 0 then fL_X4_ears_22 M x1 x2 k (x3 ||| (0 : Int32)) (x4 + (1 : Int32)) (upd v_thick x1.toNatClampNeg x4) else fL_X4_ears_22 M x1 x2 k (x3 ||| ((1 : Int32) <<< (x4 &&& 31))) (x4 + (1 : Int32)) (upd v_thick x1.toNatClampNeg x4)))
def f_X4_ears (M : MS) (x1 : Int32) : Int32 × MS := (if (f_X4_isPerson M x1) = 0 then ((-1 : Int32), M) else fL_X4_ears_22 M x1 ((M_thick M) x1.toNatClampNeg) 11 (0 : Int32) (1 : Int32) (M_thick M))
theorem iw_X4_ears_4 : ∀ w ∈ wsX40, w ∈ wsX4_ears := fun _ h => List.mem_cons_of_mem _ (List.mem_append_right _ h)
set_option maxHeartbeats 4000000 in
set_option maxRecDepth 100000 in
theorem L_X4_ears_22 {p : Program} (l : Launch) {e : Env} {s : State} {m : MethodId} {args : Array Value} {below : List Frame} {meth : Method} {c : Code} {A : Nat → Prop} (D : va_G) (cI cO : ClassId) (tF : Nat) (ad : Nat → Nat) (M : MS) (x1 : Int32) (x2 : Int32) (hn : (M_people M).toInt ≤ 6) (hr : (M_readings M).toInt ≤ 8) (hw : ∀ r : Nat, (r : Int) < (M_readings M).toInt → vp_in (M_readWho M r) 6 ∧ ¬ (M_thick M) (M_readWho M r).toNatClampNeg = 0) (B : Bx p s m args meth c cX4_ears 5 (some .int) wsX4_ears RX4 D cI cO tF A) (hp : vp_in x1 6) : ∀ (k : Nat) (x3 : Int32) (x4 : Int32) (v_thick : (Nat → Int32)), (∀ r : Nat, (r : Int) < (M_readings M).toInt → vp_in (M_readWho M r) 6 ∧ ¬ v_thick (M_readWho M r).toNatClampNeg = 0) → (1 ≤ x4.toInt) → (0 ≤ x4.toInt) → ((9 + 1 - x4.toInt).toNat < k) → ∀ (H : Heap) (locs : List Loc), va_P D vwCl (wM ad cI (M_thick' M v_thick)) H → va_D A (wM ad cI (M_thick' M v_thick)) → va_S A s.heap H locs → ∀ ls : Array Slot, lv_has ls 5 [(0, .ref (ad 0)), (1, .int x1), (2, .int x2), (3, .int x3), (4, .int x4)] → W p l e ({ frames := 2, cells := 0, slots := 0, locals := 44 }) s m args below meth c H locs 0 0 (MQ below (Qp D (some (.int ((fL_X4_ears_22 M x1 x2 k x3 x4 v_thick).1))) (wM ad cI ((fL_X4_ears_22 M x1 x2 k x3 x4 v_thick).2)) A) args s 0 0 A) (F0 m 22 ls []) := by
  obtain ⟨hx, hb, hret, hml, hts, hown, hlocks, hE, hA⟩ := id B
  have hK := hE.1
  intro k
  induction k with
  | zero =>
    intro x3 x4 v_thick hv h1 h0 hk
    exact absurd hk (Nat.not_lt_zero _)
  | succ k ih =>
    intro x3 x4 v_thick hv h1 h0 hk H locs hP hD hS ls hl
    refine lv_iload hx hb dX4_ears_22 (lv_at hl 4 rfl) ?_
    refine lv_bipush (v := (9 : Int32)) hx hb dX4_ears_24 (by decide) ?_
    refine lv_icmp_gt (tgt := 61) hx hb dX4_ears_26 (by decide) (fun c_26 => ?_) (fun c_26 => ?_)
    · refine lv_aload_n hx hb dX4_ears_61 rfl (lv_at hl 0 rfl) ?_
      refine va_get (D := D) (ci := 4) (v := .ref (ad 6)) (C := RX4) (T := TX4) (N := 24) hx hb hts iw_X4_ears_4 hown hK hP 0 rfl rfl 11 (by decide) (hts (.fieldLink RX4 25 "TownLispModel" "thick" "[I") (by decide +kernel)) (fun _ h9 => h9) rfl dX4_ears_62 ?_
      refine lv_iload_n hx hb dX4_ears_65 rfl (lv_at hl 1 rfl) ?_
      refine lv_iload_n hx hb dX4_ears_66 rfl (lv_at hl 2 rfl) ?_
      refine va_iast hx hb hK hP hD hS 6 0 rfl rfl (hp) dX4_ears_67 (fun H locs hP hD hS => ?_)
      have hP : va_P D vwCl (wM ad cI (M_thick' M (upd v_thick x1.toNatClampNeg x2))) H := hP
      have hD : va_D A (wM ad cI (M_thick' M (upd v_thick x1.toNatClampNeg x2))) := hD
      refine lv_iload_n hx hb dX4_ears_68 rfl (lv_at hl 3 rfl) ?_
      have hF : fL_X4_ears_22 M x1 x2 (k + 1) x3 x4 v_thick = (x3, (M_thick' M (upd v_thick x1.toNatClampNeg x2))) := by rw [fL_X4_ears_22, if_pos c_26]
      rw [hF]
      exact kr_i B hP hS rfl rfl dX4_ears_69
    · refine lv_aload_n hx hb dX4_ears_29 rfl (lv_at hl 0 rfl) ?_
      refine va_get (D := D) (ci := 4) (v := .ref (ad 6)) (C := RX4) (T := TX4) (N := 24) hx hb hts iw_X4_ears_4 hown hK hP 0 rfl rfl 11 (by decide) (hts (.fieldLink RX4 25 "TownLispModel" "thick" "[I") (by decide +kernel)) (fun _ h9 => h9) rfl dX4_ears_30 ?_
      refine lv_iload_n hx hb dX4_ears_33 rfl (lv_at hl 1 rfl) ?_
      refine lv_iload hx hb dX4_ears_34 (lv_at hl 4 rfl) ?_
      refine va_iast hx hb hK hP hD hS 6 0 rfl rfl (hp) dX4_ears_36 (fun H locs hP hD hS => ?_)
      have hP : va_P D vwCl (wM ad cI (M_thick' M (upd v_thick x1.toNatClampNeg x4))) H := hP
      have hD : va_D A (wM ad cI (M_thick' M (upd v_thick x1.toNatClampNeg x4))) := hD
      refine lv_iload_n hx hb dX4_ears_37 rfl (lv_at hl 3 rfl) ?_
      refine lv_aload_n hx hb dX4_ears_38 rfl (lv_at hl 0 rfl) ?_
      refine kc_V (As := []) (rest := [.int x3]) B (c_X4_areSo l D cI cO tF ad (M_thick' M (upd v_thick x1.toNatClampNeg x4)) (hr) (er_hw hv h1)) (cwV 0 hts gX4_ears_X4_areSo rfl rfl rfl (by decide +kernel) ⟨Nat.le_of_ble_eq_true rfl, Nat.le_of_ble_eq_true rfl⟩) hP hD hS [0, 1, 2, 3, 4, 5, 6, 7, 8, 9, 10, 11, 12] wM_subA (by decide) (w' := wM ad cI (M_thick' M (upd v_thick x1.toNatClampNeg x4))) (wM_setA _) (wM_fst _) 0 4 rfl rfl rfl rfl hl.1 rfl (Nat.le_of_ble_eq_true rfl) dX4_ears_39 ⟨Nat.zero_le _, Nat.zero_le _⟩ (fun H locs hP hD hS => ?_)
      have hD : va_D A (wM ad cI (M_thick' M (upd v_thick x1.toNatClampNeg x4))) := hD
      refine lv_if_eq (tgt := 52) hx hb dX4_ears_42 (by decide) (fun c_42 => ?_) (fun c_42 => ?_)
      · refine lv_iconst (v := (0 : Int32)) hx hb dX4_ears_52 (by decide) ?_
        refine lv_ior hx hb dX4_ears_53 ?_
        refine lv_istore_n (lv' := [(3, .int (x3 ||| (0 : Int32))), (0, .ref (ad 0)), (1, .int x1), (2, .int x2), (4, .int x4)]) hx hb dX4_ears_54 rfl hl (by decide) rfl (fun ls hl => ?_)
        refine lv_iinc (v := (x4 + (1 : Int32))) (lv' := [(4, .int (x4 + (1 : Int32))), (3, .int (x3 ||| (0 : Int32))), (0, .ref (ad 0)), (1, .int x1), (2, .int x2)]) hx hb dX4_ears_55 hl (k := 4) rfl rfl (by decide) rfl (fun ls hl => ?_)
        refine lv_goto (tgt := 22) hx hb dX4_ears_58 (by decide) ?_
        have hF : fL_X4_ears_22 M x1 x2 (k + 1) x3 x4 v_thick = fL_X4_ears_22 M x1 x2 k (x3 ||| (0 : Int32)) (x4 + (1 : Int32)) (upd v_thick x1.toNatClampNeg x4) := by rw [fL_X4_ears_22, if_neg c_26, if_pos c_42]
        rw [hF]
        exact ih (x3 ||| (0 : Int32)) (x4 + (1 : Int32)) (upd v_thick x1.toNatClampNeg x4) (er_hw hv h1) (ge1_s h1 c_26) (lq_pre (n := 9) (by decide) h0 c_26) (lq_mu (n := 9) (by decide) h0 c_26 hk) _ _ hP hD hS ls (lv_sub hl [2, 3, 4, 1, 0] rfl)
      · refine lv_iconst (v := (1 : Int32)) hx hb dX4_ears_45 (by decide) ?_
        refine lv_iload hx hb dX4_ears_46 (lv_at hl 4 rfl) ?_
        refine lv_ishl hx hb dX4_ears_48 ?_
        refine lv_goto (tgt := 53) hx hb dX4_ears_49 (by decide) ?_
        refine lv_ior hx hb dX4_ears_53 ?_
        refine lv_istore_n (lv' := [(3, .int (x3 ||| ((1 : Int32) <<< (x4 &&& 31)))), (0, .ref (ad 0)), (1, .int x1), (2, .int x2), (4, .int x4)]) hx hb dX4_ears_54 rfl hl (by decide) rfl (fun ls hl => ?_)
        refine lv_iinc (v := (x4 + (1 : Int32))) (lv' := [(4, .int (x4 + (1 : Int32))), (3, .int (x3 ||| ((1 : Int32) <<< (x4 &&& 31)))), (0, .ref (ad 0)), (1, .int x1), (2, .int x2)]) hx hb dX4_ears_55 hl (k := 4) rfl rfl (by decide) rfl (fun ls hl => ?_)
        refine lv_goto (tgt := 22) hx hb dX4_ears_58 (by decide) ?_
        have hF : fL_X4_ears_22 M x1 x2 (k + 1) x3 x4 v_thick = fL_X4_ears_22 M x1 x2 k (x3 ||| ((1 : Int32) <<< (x4 &&& 31))) (x4 + (1 : Int32)) (upd v_thick x1.toNatClampNeg x4) := by rw [fL_X4_ears_22, if_neg c_26, if_neg c_42]
        rw [hF]
        exact ih (x3 ||| ((1 : Int32) <<< (x4 &&& 31))) (x4 + (1 : Int32)) (upd v_thick x1.toNatClampNeg x4) (er_hw hv h1) (ge1_s h1 c_26) (lq_pre (n := 9) (by decide) h0 c_26) (lq_mu (n := 9) (by decide) h0 c_26 hk) _ _ hP hD hS ls (lv_sub hl [2, 3, 4, 1, 0] rfl)
set_option maxHeartbeats 4000000 in
set_option maxRecDepth 100000 in
theorem c_X4_ears (l : Launch) (D : va_G) (cI cO : ClassId) (tF : Nat) (ad : Nat → Nat) (M : MS) (x1 : Int32) (hn : (M_people M).toInt ≤ 6) (hr : (M_readings M).toInt ≤ 8) (hw : ∀ r : Nat, (r : Int) < (M_readings M).toInt → vp_in (M_readWho M r) 6 ∧ ¬ (M_thick M) (M_readWho M r).toNatClampNeg = 0) : Ct l yX4_ears wsX4_ears ({ frames := 2, cells := 0, slots := 0, locals := 44 }) D cI cO tF [.ref (ad 0), .int x1] (wM ad cI M) (some (.int ((f_X4_ears M x1).1))) (wM ad cI ((f_X4_ears M x1).2)) := by
  refine Ct.of (cc := cX4_ears) (maxL := 5) (ret := (some .int)) (own := RX4) (by decide) rfl rfl (Nat.le_of_ble_eq_true rfl) ?_
  intro p e s m args below meth c A ls B hP hD hS hl
  obtain ⟨hx, hb, hret, hml, hts, hown, hlocks, hE, hA⟩ := id B
  have hK := hE.1
  have hl : lv_has ls 5 [(0, .ref (ad 0)), (1, .int x1)] := hl
  refine lv_aload_n hx hb dX4_ears_0 rfl (lv_at hl 0 rfl) ?_
  refine lv_iload_n hx hb dX4_ears_1 rfl (lv_at hl 1 rfl) ?_
  refine kc_V (As := [.int x1]) (rest := []) B (c_X4_isPerson l D cI cO tF ad M x1 ) (cwV 1 hts gX4_ears_X4_isPerson rfl rfl rfl (by decide +kernel) ⟨Nat.le_of_ble_eq_true rfl, Nat.le_of_ble_eq_true rfl⟩) hP hD hS [0, 1, 2, 3, 4, 5, 6, 7, 8, 9, 10, 11, 12] wM_subA (by decide) (w' := wM ad cI M) (wM_setA _) (wM_fst _) 0 4 rfl rfl rfl rfl hl.1 rfl (Nat.le_of_ble_eq_true rfl) dX4_ears_2 ⟨Nat.zero_le _, Nat.zero_le _⟩ (fun H locs hP hD hS => ?_)
  have hD : va_D A (wM ad cI M) := hD
  refine lv_if_ne (tgt := 10) hx hb dX4_ears_5 (by decide) (fun c_5 => ?_) (fun c_5 => ?_)
  · refine lv_aload_n hx hb dX4_ears_10 rfl (lv_at hl 0 rfl) ?_
    refine va_get (D := D) (ci := 4) (v := .ref (ad 6)) (C := RX4) (T := TX4) (N := 24) hx hb hts iw_X4_ears_4 hown hK hP 0 rfl rfl 11 (by decide) (hts (.fieldLink RX4 25 "TownLispModel" "thick" "[I") (by decide +kernel)) (fun _ h9 => h9) rfl dX4_ears_11 ?_
    refine lv_iload_n hx hb dX4_ears_14 rfl (lv_at hl 1 rfl) ?_
    refine va_iald hx hb hK hP 6 0 rfl rfl (mi_in hn c_5) dX4_ears_15 ?_
    refine lv_istore_n (lv' := [(2, .int ((M_thick M) x1.toNatClampNeg)), (0, .ref (ad 0)), (1, .int x1)]) hx hb dX4_ears_16 rfl hl (by decide) rfl (fun ls hl => ?_)
    refine lv_iconst (v := (0 : Int32)) hx hb dX4_ears_17 (by decide) ?_
    refine lv_istore_n (lv' := [(3, .int (0 : Int32)), (2, .int ((M_thick M) x1.toNatClampNeg)), (0, .ref (ad 0)), (1, .int x1)]) hx hb dX4_ears_18 rfl hl (by decide) rfl (fun ls hl => ?_)
    refine lv_iconst (v := (1 : Int32)) hx hb dX4_ears_19 (by decide) ?_
    refine lv_istore (lv' := [(4, .int (1 : Int32)), (3, .int (0 : Int32)), (2, .int ((M_thick M) x1.toNatClampNeg)), (0, .ref (ad 0)), (1, .int x1)]) hx hb dX4_ears_20 hl (by decide) rfl (fun ls hl => ?_)
    have hF : f_X4_ears M x1 = fL_X4_ears_22 M x1 ((M_thick M) x1.toNatClampNeg) 11 (0 : Int32) (1 : Int32) (M_thick M) := by rw [f_X4_ears, if_neg c_5]
    rw [hF]
    exact L_X4_ears_22 l D cI cO tF ad M x1 ((M_thick M) x1.toNatClampNeg) hn hr hw B (mi_in hn c_5) 11 (0 : Int32) (1 : Int32) (M_thick M) (hw) (by decide) (by decide) (by decide) _ _ hP hD hS ls (lv_sub hl [3, 4, 2, 1, 0] rfl)
  · refine lv_iconst (v := (-1 : Int32)) hx hb dX4_ears_8 (by decide) ?_
    have hF : f_X4_ears M x1 = ((-1 : Int32), M) := by rw [f_X4_ears, if_pos c_5]
    rw [hF]
    exact kr_i B hP hS rfl rfl dX4_ears_9
def fL_X4_kinds_22 (M : MS) (x1 : Int32) (x2 : Int32) : Nat → Int32 → Int32 → (Nat → Int32) → Int32 × MS
  | 0, _, _, v_kind => (0, (M_kind' M v_kind))
  | k + 1, x3, x4, v_kind => (if (3 : Int32) ≤ x4 then (x3, (M_kind' M (upd v_kind x1.toNatClampNeg x2))) else (if (f_X4_areSo (M_kind' M (upd v_kind x1.toNatClampNeg x4))) = 0 then fL_X4_kinds_22 M x1 x2 k (x3 ||| (0 : Int32)) (x4 + (1 : Int32)) (upd v_kind x1.toNatClampNeg x4) else fL_X4_kinds_22 M x1 x2 k (x3 ||| ((1 : Int32) <<< (x4 &&& 31))) (x4 + (1 : Int32)) (upd v_kind x1.toNatClampNeg x4)))
def f_X4_kinds (M : MS) (x1 : Int32) : Int32 × MS := (if (f_X4_isPerson M x1) = 0 then ((-1 : Int32), M) else fL_X4_kinds_22 M x1 ((M_kind M) x1.toNatClampNeg) 4 (0 : Int32) (0 : Int32) (M_kind M))
theorem iw_X4_kinds_4 : ∀ w ∈ wsX40, w ∈ wsX4_kinds := fun _ h => List.mem_cons_of_mem _ (List.mem_append_right _ h)
set_option maxHeartbeats 4000000 in
set_option maxRecDepth 100000 in
theorem L_X4_kinds_22 {p : Program} (l : Launch) {e : Env} {s : State} {m : MethodId} {args : Array Value} {below : List Frame} {meth : Method} {c : Code} {A : Nat → Prop} (D : va_G) (cI cO : ClassId) (tF : Nat) (ad : Nat → Nat) (M : MS) (x1 : Int32) (x2 : Int32) (hn : (M_people M).toInt ≤ 6) (hr : (M_readings M).toInt ≤ 8) (hw : ∀ r : Nat, (r : Int) < (M_readings M).toInt → vp_in (M_readWho M r) 6 ∧ ¬ (M_thick M) (M_readWho M r).toNatClampNeg = 0) (B : Bx p s m args meth c cX4_kinds 5 (some .int) wsX4_kinds RX4 D cI cO tF A) (hp : vp_in x1 6) : ∀ (k : Nat) (x3 : Int32) (x4 : Int32) (v_kind : (Nat → Int32)), (0 ≤ x4.toInt) → (((3 : Int32).toInt - x4.toInt).toNat < k) → ∀ (H : Heap) (locs : List Loc), va_P D vwCl (wM ad cI (M_kind' M v_kind)) H → va_D A (wM ad cI (M_kind' M v_kind)) → va_S A s.heap H locs → ∀ ls : Array Slot, lv_has ls 5 [(0, .ref (ad 0)), (1, .int x1), (2, .int x2), (3, .int x3), (4, .int x4)] → W p l e ({ frames := 2, cells := 0, slots := 0, locals := 44 }) s m args below meth c H locs 0 0 (MQ below (Qp D (some (.int ((fL_X4_kinds_22 M x1 x2 k x3 x4 v_kind).1))) (wM ad cI ((fL_X4_kinds_22 M x1 x2 k x3 x4 v_kind).2)) A) args s 0 0 A) (F0 m 22 ls []) := by
  obtain ⟨hx, hb, hret, hml, hts, hown, hlocks, hE, hA⟩ := id B
  have hK := hE.1
  intro k
  induction k with
  | zero =>
    intro x3 x4 v_kind h0 hk
    exact absurd hk (Nat.not_lt_zero _)
  | succ k ih =>
    intro x3 x4 v_kind h0 hk H locs hP hD hS ls hl
    refine lv_iload hx hb dX4_kinds_22 (lv_at hl 4 rfl) ?_
    refine lv_iconst (v := (3 : Int32)) hx hb dX4_kinds_24 (by decide) ?_
    refine lv_icmp_ge (tgt := 60) hx hb dX4_kinds_25 (by decide) (fun c_25 => ?_) (fun c_25 => ?_)
    · refine lv_aload_n hx hb dX4_kinds_60 rfl (lv_at hl 0 rfl) ?_
      refine va_get (D := D) (ci := 4) (v := .ref (ad 4)) (C := RX4) (T := TX4) (N := 24) hx hb hts iw_X4_kinds_4 hown hK hP 0 rfl rfl 9 (by decide) (hts (.fieldLink RX4 19 "TownLispModel" "kind" "[I") (by decide +kernel)) (fun _ h9 => h9) rfl dX4_kinds_61 ?_
      refine lv_iload_n hx hb dX4_kinds_64 rfl (lv_at hl 1 rfl) ?_
      refine lv_iload_n hx hb dX4_kinds_65 rfl (lv_at hl 2 rfl) ?_
      refine va_iast hx hb hK hP hD hS 4 0 rfl rfl (hp) dX4_kinds_66 (fun H locs hP hD hS => ?_)
      have hP : va_P D vwCl (wM ad cI (M_kind' M (upd v_kind x1.toNatClampNeg x2))) H := hP
      have hD : va_D A (wM ad cI (M_kind' M (upd v_kind x1.toNatClampNeg x2))) := hD
      refine lv_iload_n hx hb dX4_kinds_67 rfl (lv_at hl 3 rfl) ?_
      have hF : fL_X4_kinds_22 M x1 x2 (k + 1) x3 x4 v_kind = (x3, (M_kind' M (upd v_kind x1.toNatClampNeg x2))) := by rw [fL_X4_kinds_22, if_pos c_25]
      rw [hF]
      exact kr_i B hP hS rfl rfl dX4_kinds_68
    · refine lv_aload_n hx hb dX4_kinds_28 rfl (lv_at hl 0 rfl) ?_
      refine va_get (D := D) (ci := 4) (v := .ref (ad 4)) (C := RX4) (T := TX4) (N := 24) hx hb hts iw_X4_kinds_4 hown hK hP 0 rfl rfl 9 (by decide) (hts (.fieldLink RX4 19 "TownLispModel" "kind" "[I") (by decide +kernel)) (fun _ h9 => h9) rfl dX4_kinds_29 ?_
      refine lv_iload_n hx hb dX4_kinds_32 rfl (lv_at hl 1 rfl) ?_
      refine lv_iload hx hb dX4_kinds_33 (lv_at hl 4 rfl) ?_
      refine va_iast hx hb hK hP hD hS 4 0 rfl rfl (hp) dX4_kinds_35 (fun H locs hP hD hS => ?_)
      have hP : va_P D vwCl (wM ad cI (M_kind' M (upd v_kind x1.toNatClampNeg x4))) H := hP
      have hD : va_D A (wM ad cI (M_kind' M (upd v_kind x1.toNatClampNeg x4))) := hD
      refine lv_iload_n hx hb dX4_kinds_36 rfl (lv_at hl 3 rfl) ?_
      refine lv_aload_n hx hb dX4_kinds_37 rfl (lv_at hl 0 rfl) ?_
      refine kc_V (As := []) (rest := [.int x3]) B (c_X4_areSo l D cI cO tF ad (M_kind' M (upd v_kind x1.toNatClampNeg x4)) (hr) (hw)) (cwV 0 hts gX4_kinds_X4_areSo rfl rfl rfl (by decide +kernel) ⟨Nat.le_of_ble_eq_true rfl, Nat.le_of_ble_eq_true rfl⟩) hP hD hS [0, 1, 2, 3, 4, 5, 6, 7, 8, 9, 10, 11, 12] wM_subA (by decide) (w' := wM ad cI (M_kind' M (upd v_kind x1.toNatClampNeg x4))) (wM_setA _) (wM_fst _) 0 4 rfl rfl rfl rfl hl.1 rfl (Nat.le_of_ble_eq_true rfl) dX4_kinds_38 ⟨Nat.zero_le _, Nat.zero_le _⟩ (fun H locs hP hD hS => ?_)
      have hD : va_D A (wM ad cI (M_kind' M (upd v_kind x1.toNatClampNeg x4))) := hD
      refine lv_if_eq (tgt := 51) hx hb dX4_kinds_41 (by decide) (fun c_41 => ?_) (fun c_41 => ?_)
      · refine lv_iconst (v := (0 : Int32)) hx hb dX4_kinds_51 (by decide) ?_
        refine lv_ior hx hb dX4_kinds_52 ?_
        refine lv_istore_n (lv' := [(3, .int (x3 ||| (0 : Int32))), (0, .ref (ad 0)), (1, .int x1), (2, .int x2), (4, .int x4)]) hx hb dX4_kinds_53 rfl hl (by decide) rfl (fun ls hl => ?_)
        refine lv_iinc (v := (x4 + (1 : Int32))) (lv' := [(4, .int (x4 + (1 : Int32))), (3, .int (x3 ||| (0 : Int32))), (0, .ref (ad 0)), (1, .int x1), (2, .int x2)]) hx hb dX4_kinds_54 hl (k := 4) rfl rfl (by decide) rfl (fun ls hl => ?_)
        refine lv_goto (tgt := 22) hx hb dX4_kinds_57 (by decide) ?_
        have hF : fL_X4_kinds_22 M x1 x2 (k + 1) x3 x4 v_kind = fL_X4_kinds_22 M x1 x2 k (x3 ||| (0 : Int32)) (x4 + (1 : Int32)) (upd v_kind x1.toNatClampNeg x4) := by rw [fL_X4_kinds_22, if_neg c_25, if_pos c_41]
        rw [hF]
        exact ih (x3 ||| (0 : Int32)) (x4 + (1 : Int32)) (upd v_kind x1.toNatClampNeg x4) (lp_pre h0 c_25) (lp_mu h0 c_25 hk) _ _ hP hD hS ls (lv_sub hl [2, 3, 4, 1, 0] rfl)
      · refine lv_iconst (v := (1 : Int32)) hx hb dX4_kinds_44 (by decide) ?_
        refine lv_iload hx hb dX4_kinds_45 (lv_at hl 4 rfl) ?_
        refine lv_ishl hx hb dX4_kinds_47 ?_
        refine lv_goto (tgt := 52) hx hb dX4_kinds_48 (by decide) ?_
        refine lv_ior hx hb dX4_kinds_52 ?_
        refine lv_istore_n (lv' := [(3, .int (x3 ||| ((1 : Int32) <<< (x4 &&& 31)))), (0, .ref (ad 0)), (1, .int x1), (2, .int x2), (4, .int x4)]) hx hb dX4_kinds_53 rfl hl (by decide) rfl (fun ls hl => ?_)
        refine lv_iinc (v := (x4 + (1 : Int32))) (lv' := [(4, .int (x4 + (1 : Int32))), (3, .int (x3 ||| ((1 : Int32) <<< (x4 &&& 31)))), (0, .ref (ad 0)), (1, .int x1), (2, .int x2)]) hx hb dX4_kinds_54 hl (k := 4) rfl rfl (by decide) rfl (fun ls hl => ?_)
        refine lv_goto (tgt := 22) hx hb dX4_kinds_57 (by decide) ?_
        have hF : fL_X4_kinds_22 M x1 x2 (k + 1) x3 x4 v_kind = fL_X4_kinds_22 M x1 x2 k (x3 ||| ((1 : Int32) <<< (x4 &&& 31))) (x4 + (1 : Int32)) (upd v_kind x1.toNatClampNeg x4) := by rw [fL_X4_kinds_22, if_neg c_25, if_neg c_41]
        rw [hF]
        exact ih (x3 ||| ((1 : Int32) <<< (x4 &&& 31))) (x4 + (1 : Int32)) (upd v_kind x1.toNatClampNeg x4) (lp_pre h0 c_25) (lp_mu h0 c_25 hk) _ _ hP hD hS ls (lv_sub hl [2, 3, 4, 1, 0] rfl)
set_option maxHeartbeats 4000000 in
set_option maxRecDepth 100000 in
theorem c_X4_kinds (l : Launch) (D : va_G) (cI cO : ClassId) (tF : Nat) (ad : Nat → Nat) (M : MS) (x1 : Int32) (hn : (M_people M).toInt ≤ 6) (hr : (M_readings M).toInt ≤ 8) (hw : ∀ r : Nat, (r : Int) < (M_readings M).toInt → vp_in (M_readWho M r) 6 ∧ ¬ (M_thick M) (M_readWho M r).toNatClampNeg = 0) : Ct l yX4_kinds wsX4_kinds ({ frames := 2, cells := 0, slots := 0, locals := 44 }) D cI cO tF [.ref (ad 0), .int x1] (wM ad cI M) (some (.int ((f_X4_kinds M x1).1))) (wM ad cI ((f_X4_kinds M x1).2)) := by
  refine Ct.of (cc := cX4_kinds) (maxL := 5) (ret := (some .int)) (own := RX4) (by decide) rfl rfl (Nat.le_of_ble_eq_true rfl) ?_
  intro p e s m args below meth c A ls B hP hD hS hl
  obtain ⟨hx, hb, hret, hml, hts, hown, hlocks, hE, hA⟩ := id B
  have hK := hE.1
  have hl : lv_has ls 5 [(0, .ref (ad 0)), (1, .int x1)] := hl
  refine lv_aload_n hx hb dX4_kinds_0 rfl (lv_at hl 0 rfl) ?_
  refine lv_iload_n hx hb dX4_kinds_1 rfl (lv_at hl 1 rfl) ?_
  refine kc_V (As := [.int x1]) (rest := []) B (c_X4_isPerson l D cI cO tF ad M x1 ) (cwV 1 hts gX4_kinds_X4_isPerson rfl rfl rfl (by decide +kernel) ⟨Nat.le_of_ble_eq_true rfl, Nat.le_of_ble_eq_true rfl⟩) hP hD hS [0, 1, 2, 3, 4, 5, 6, 7, 8, 9, 10, 11, 12] wM_subA (by decide) (w' := wM ad cI M) (wM_setA _) (wM_fst _) 0 4 rfl rfl rfl rfl hl.1 rfl (Nat.le_of_ble_eq_true rfl) dX4_kinds_2 ⟨Nat.zero_le _, Nat.zero_le _⟩ (fun H locs hP hD hS => ?_)
  have hD : va_D A (wM ad cI M) := hD
  refine lv_if_ne (tgt := 10) hx hb dX4_kinds_5 (by decide) (fun c_5 => ?_) (fun c_5 => ?_)
  · refine lv_aload_n hx hb dX4_kinds_10 rfl (lv_at hl 0 rfl) ?_
    refine va_get (D := D) (ci := 4) (v := .ref (ad 4)) (C := RX4) (T := TX4) (N := 24) hx hb hts iw_X4_kinds_4 hown hK hP 0 rfl rfl 9 (by decide) (hts (.fieldLink RX4 19 "TownLispModel" "kind" "[I") (by decide +kernel)) (fun _ h9 => h9) rfl dX4_kinds_11 ?_
    refine lv_iload_n hx hb dX4_kinds_14 rfl (lv_at hl 1 rfl) ?_
    refine va_iald hx hb hK hP 4 0 rfl rfl (mi_in hn c_5) dX4_kinds_15 ?_
    refine lv_istore_n (lv' := [(2, .int ((M_kind M) x1.toNatClampNeg)), (0, .ref (ad 0)), (1, .int x1)]) hx hb dX4_kinds_16 rfl hl (by decide) rfl (fun ls hl => ?_)
    refine lv_iconst (v := (0 : Int32)) hx hb dX4_kinds_17 (by decide) ?_
    refine lv_istore_n (lv' := [(3, .int (0 : Int32)), (2, .int ((M_kind M) x1.toNatClampNeg)), (0, .ref (ad 0)), (1, .int x1)]) hx hb dX4_kinds_18 rfl hl (by decide) rfl (fun ls hl => ?_)
    refine lv_iconst (v := (0 : Int32)) hx hb dX4_kinds_19 (by decide) ?_
    refine lv_istore (lv' := [(4, .int (0 : Int32)), (3, .int (0 : Int32)), (2, .int ((M_kind M) x1.toNatClampNeg)), (0, .ref (ad 0)), (1, .int x1)]) hx hb dX4_kinds_20 hl (by decide) rfl (fun ls hl => ?_)
    have hF : f_X4_kinds M x1 = fL_X4_kinds_22 M x1 ((M_kind M) x1.toNatClampNeg) 4 (0 : Int32) (0 : Int32) (M_kind M) := by rw [f_X4_kinds, if_neg c_5]
    rw [hF]
    exact L_X4_kinds_22 l D cI cO tF ad M x1 ((M_kind M) x1.toNatClampNeg) hn hr hw B (mi_in hn c_5) 4 (0 : Int32) (0 : Int32) (M_kind M) (Int.le_refl _) (by decide) _ _ hP hD hS ls (lv_sub hl [3, 4, 2, 1, 0] rfl)
  · refine lv_iconst (v := (-1 : Int32)) hx hb dX4_kinds_8 (by decide) ?_
    have hF : f_X4_kinds M x1 = ((-1 : Int32), M) := by rw [f_X4_kinds, if_pos c_5]
    rw [hF]
    exact kr_i B hP hS rfl rfl dX4_kinds_9
def fL_X4_asked_55 (M : MS) (x1 : Int32) (x2 : Int32) (x3 : Int32) (x4 : Int32) : Nat → Int32 → Int32 → Int32 → Int32
  | 0, _, _, _ => 0
  | k + 1, x5, x6, x7 => (if ((1 : Int32) <<< ((M_people M) &&& 31)) ≤ x7 then (if x3 = 0 then x5 else (if x5 = (-9 : Int32) then x5 else x6)) else (if (x7 &&& (x4 ^^^ (-1 : Int32))) = 0 then (if (((M_parts M) x1.toNatClampNeg) + (f_X4_partsOf M x7)) < x2 then fL_X4_asked_55 M x1 x2 x3 x4 k x5 x6 (x7 + (1 : Int32)) else (if x5 = (-9 : Int32) then fL_X4_asked_55 M x1 x2 x3 x4 k x7 (((M_parts M) x1.toNatClampNeg) + (f_X4_partsOf M x7)) (x7 + (1 : Int32)) else (if (f_X4_size x7) < (f_X4_size x5) then fL_X4_asked_55 M x1 x2 x3 x4 k x7 (((M_parts M) x1.toNatClampNeg) + (f_X4_partsOf M x7)) (x7 + (1 : Int32)) else (if (f_X4_size x7) = (f_X4_size x5) then (if x6 ≤ (((M_parts M) x1.toNatClampNeg) + (f_X4_partsOf M x7)) then fL_X4_asked_55 M x1 x2 x3 x4 k x5 x6 (x7 + (1 : Int32)) else fL_X4_asked_55 M x1 x2 x3 x4 k x7 (((M_parts M) x1.toNatClampNeg) + (f_X4_partsOf M x7)) (x7 + (1 : Int32))) else fL_X4_asked_55 M x1 x2 x3 x4 k x5 x6 (x7 + (1 : Int32)))))) else fL_X4_asked_55 M x1 x2 x3 x4 k x5 x6 (x7 + (1 : Int32))))
def f_X4_asked (M : MS) (x1 : Int32) (x2 : Int32) (x3 : Int32) : Int32 := (if (f_X4_isPerson M x1) = 0 then (-1 : Int32) else (if (f_X4_within x2 (0 : Int32) (300 : Int32)) = 0 then (-2 : Int32) else (if (f_X4_within x3 (0 : Int32) (1 : Int32)) = 0 then (-2 : Int32) else fL_X4_asked_55 M x1 x2 x3 ((M_isIn M) &&& (((1 : Int32) <<< (x1 &&& 31)) ^^^ (-1 : Int32))) (((1 : Int32) <<< ((M_people M) &&& 31)).toInt.toNat + 1) (-9 : Int32) (0 : Int32) (0 : Int32))))
theorem iw_X4_asked_4 : ∀ w ∈ wsX40, w ∈ wsX4_asked := fun _ h => List.mem_cons_of_mem _ (List.mem_append_right _ h)
set_option maxHeartbeats 4000000 in
set_option maxRecDepth 100000 in
theorem L_X4_asked_55 {p : Program} (l : Launch) {e : Env} {s : State} {m : MethodId} {args : Array Value} {below : List Frame} {meth : Method} {c : Code} {A : Nat → Prop} (D : va_G) (cI cO : ClassId) (tF : Nat) (ad : Nat → Nat) (M : MS) (x1 : Int32) (x2 : Int32) (x3 : Int32) (x4 : Int32) (hn : (M_people M).toInt ≤ 6) (B : Bx p s m args meth c cX4_asked 9 (some .int) wsX4_asked RX4 D cI cO tF A) (hp : vp_in x1 6) : ∀ (k : Nat) (x5 : Int32) (x6 : Int32) (x7 : Int32), (0 ≤ x7.toInt) → ((((1 : Int32) <<< ((M_people M) &&& 31)).toInt - x7.toInt).toNat < k) → ∀ (H : Heap) (locs : List Loc), va_P D vwCl (wM ad cI M) H → va_D A (wM ad cI M) → va_S A s.heap H locs → ∀ ls : Array Slot, lv_has ls 9 [(0, .ref (ad 0)), (1, .int x1), (2, .int x2), (3, .int x3), (4, .int x4), (5, .int x5), (6, .int x6), (7, .int x7)] → W p l e ({ frames := 2, cells := 0, slots := 0, locals := 44 }) s m args below meth c H locs 0 0 (MQ below (Qp D (some (.int (fL_X4_asked_55 M x1 x2 x3 x4 k x5 x6 x7))) (wM ad cI M) A) args s 0 0 A) (F0 m 55 ls []) := by
  obtain ⟨hx, hb, hret, hml, hts, hown, hlocks, hE, hA⟩ := id B
  have hK := hE.1
  intro k
  induction k with
  | zero =>
    intro x5 x6 x7 h0 hk
    exact absurd hk (Nat.not_lt_zero _)
  | succ k ih =>
    intro x5 x6 x7 h0 hk H locs hP hD hS ls hl
    refine lv_iload hx hb dX4_asked_55 (lv_at hl 7 rfl) ?_
    refine lv_iconst (v := (1 : Int32)) hx hb dX4_asked_57 (by decide) ?_
    refine lv_aload_n hx hb dX4_asked_58 rfl (lv_at hl 0 rfl) ?_
    refine va_get (D := D) (ci := 4) (v := .int (M_people M)) (C := RX4) (T := TX4) (N := 24) hx hb hts iw_X4_asked_4 hown hK hP 0 rfl rfl 5 (by decide) (hts (.fieldLink RX4 56 "TownLispModel" "people" "I") (by decide +kernel)) (fun _ h9 => h9) rfl dX4_asked_59 ?_
    refine lv_ishl hx hb dX4_asked_62 ?_
    refine lv_icmp_ge (tgt := 151) hx hb dX4_asked_63 (by decide) (fun c_63 => ?_) (fun c_63 => ?_)
    · refine lv_iload_n hx hb dX4_asked_151 rfl (lv_at hl 3 rfl) ?_
      refine lv_if_eq (tgt := 162) hx hb dX4_asked_152 (by decide) (fun c_152 => ?_) (fun c_152 => ?_)
      · refine lv_iload hx hb dX4_asked_162 (lv_at hl 5 rfl) ?_
        refine lv_goto (tgt := 169) hx hb dX4_asked_164 (by decide) ?_
        have hF : fL_X4_asked_55 M x1 x2 x3 x4 (k + 1) x5 x6 x7 = x5 := by rw [fL_X4_asked_55, if_pos c_63, if_pos c_152]
        rw [hF]
        exact kr_i B hP hS rfl rfl dX4_asked_169
      · refine lv_iload hx hb dX4_asked_155 (lv_at hl 5 rfl) ?_
        refine lv_bipush (v := (-9 : Int32)) hx hb dX4_asked_157 (by decide) ?_
        refine lv_icmp_ne (tgt := 167) hx hb dX4_asked_159 (by decide) (fun c_159 => ?_) (fun c_159 => ?_)
        · refine lv_iload hx hb dX4_asked_167 (lv_at hl 6 rfl) ?_
          have hF : fL_X4_asked_55 M x1 x2 x3 x4 (k + 1) x5 x6 x7 = x6 := by rw [fL_X4_asked_55, if_pos c_63, if_neg c_152, if_neg c_159]
          rw [hF]
          exact kr_i B hP hS rfl rfl dX4_asked_169
        · refine lv_iload hx hb dX4_asked_162 (lv_at hl 5 rfl) ?_
          refine lv_goto (tgt := 169) hx hb dX4_asked_164 (by decide) ?_
          have hF : fL_X4_asked_55 M x1 x2 x3 x4 (k + 1) x5 x6 x7 = x5 := by rw [fL_X4_asked_55, if_pos c_63, if_neg c_152, if_pos c_159]
          rw [hF]
          exact kr_i B hP hS rfl rfl dX4_asked_169
    · refine lv_aload_n hx hb dX4_asked_66 rfl (lv_at hl 0 rfl) ?_
      refine va_get (D := D) (ci := 4) (v := .ref (ad 5)) (C := RX4) (T := TX4) (N := 24) hx hb hts iw_X4_asked_4 hown hK hP 0 rfl rfl 10 (by decide) (hts (.fieldLink RX4 22 "TownLispModel" "parts" "[I") (by decide +kernel)) (fun _ h9 => h9) rfl dX4_asked_67 ?_
      refine lv_iload_n hx hb dX4_asked_70 rfl (lv_at hl 1 rfl) ?_
      refine va_iald hx hb hK hP 5 0 rfl rfl (hp) dX4_asked_71 ?_
      refine lv_aload_n hx hb dX4_asked_72 rfl (lv_at hl 0 rfl) ?_
      refine lv_iload hx hb dX4_asked_73 (lv_at hl 7 rfl) ?_
      refine kc_V (As := [.int x7]) (rest := [.int ((M_parts M) x1.toNatClampNeg)]) B (c_X4_partsOf l D cI cO tF ad M x7 (hn)) (cwV 1 hts gX4_asked_X4_partsOf rfl rfl rfl (by decide +kernel) ⟨Nat.le_of_ble_eq_true rfl, Nat.le_of_ble_eq_true rfl⟩) hP hD hS [0, 1, 2, 3, 4, 5, 6, 7, 8, 9, 10, 11, 12] wM_subA (by decide) (w' := wM ad cI M) (wM_setA _) (wM_fst _) 0 4 rfl rfl rfl rfl hl.1 rfl (Nat.le_of_ble_eq_true rfl) dX4_asked_75 ⟨Nat.zero_le _, Nat.zero_le _⟩ (fun H locs hP hD hS => ?_)
      have hD : va_D A (wM ad cI M) := hD
      refine lv_iadd hx hb dX4_asked_78 ?_
      refine lv_istore (lv' := [(8, .int (((M_parts M) x1.toNatClampNeg) + (f_X4_partsOf M x7))), (0, .ref (ad 0)), (1, .int x1), (2, .int x2), (3, .int x3), (4, .int x4), (5, .int x5), (6, .int x6), (7, .int x7)]) hx hb dX4_asked_79 hl (by decide) rfl (fun ls hl => ?_)
      refine lv_iload hx hb dX4_asked_81 (lv_at hl 8 rfl) ?_
      refine lv_iload hx hb dX4_asked_83 (lv_at hl 5 rfl) ?_
      refine lv_iconst (v := (-1 : Int32)) hx hb dX4_asked_85 (by decide) ?_
      refine lv_ixor hx hb dX4_asked_86 ?_
      refine lv_iand hx hb dX4_asked_87 ?_
      refine lv_if_ne (tgt := 145) hx hb dX4_asked_88 (by decide) (fun c_88 => ?_) (fun c_88 => ?_)
      · refine lv_iinc (v := (x7 + (1 : Int32))) (lv' := [(7, .int (x7 + (1 : Int32))), (8, .int (((M_parts M) x1.toNatClampNeg) + (f_X4_partsOf M x7))), (0, .ref (ad 0)), (1, .int x1), (2, .int x2), (3, .int x3), (4, .int x4), (5, .int x5), (6, .int x6)]) hx hb dX4_asked_145 hl (k := 8) rfl rfl (by decide) rfl (fun ls hl => ?_)
        refine lv_goto (tgt := 55) hx hb dX4_asked_148 (by decide) ?_
        have hF : fL_X4_asked_55 M x1 x2 x3 x4 (k + 1) x5 x6 x7 = fL_X4_asked_55 M x1 x2 x3 x4 k x5 x6 (x7 + (1 : Int32)) := by rw [fL_X4_asked_55, if_neg c_63, if_neg c_88]
        rw [hF]
        exact ih x5 x6 (x7 + (1 : Int32)) (lp_pre h0 c_63) (lp_mu h0 c_63 hk) _ _ hP hD hS ls (lv_sub hl [2, 3, 4, 5, 6, 7, 8, 0] rfl)
      · refine lv_iload hx hb dX4_asked_91 (lv_at hl 0 rfl) ?_
        refine lv_iload_n hx hb dX4_asked_93 rfl (lv_at hl 3 rfl) ?_
        refine lv_icmp_lt (tgt := 145) hx hb dX4_asked_94 (by decide) (fun c_94 => ?_) (fun c_94 => ?_)
        · refine lv_iinc (v := (x7 + (1 : Int32))) (lv' := [(7, .int (x7 + (1 : Int32))), (8, .int (((M_parts M) x1.toNatClampNeg) + (f_X4_partsOf M x7))), (0, .ref (ad 0)), (1, .int x1), (2, .int x2), (3, .int x3), (4, .int x4), (5, .int x5), (6, .int x6)]) hx hb dX4_asked_145 hl (k := 8) rfl rfl (by decide) rfl (fun ls hl => ?_)
          refine lv_goto (tgt := 55) hx hb dX4_asked_148 (by decide) ?_
          have hF : fL_X4_asked_55 M x1 x2 x3 x4 (k + 1) x5 x6 x7 = fL_X4_asked_55 M x1 x2 x3 x4 k x5 x6 (x7 + (1 : Int32)) := by rw [fL_X4_asked_55, if_neg c_63, if_pos c_88, if_pos c_94]
          rw [hF]
          exact ih x5 x6 (x7 + (1 : Int32)) (lp_pre h0 c_63) (lp_mu h0 c_63 hk) _ _ hP hD hS ls (lv_sub hl [2, 3, 4, 5, 6, 7, 8, 0] rfl)
        · refine lv_iload hx hb dX4_asked_97 (lv_at hl 6 rfl) ?_
          refine lv_bipush (v := (-9 : Int32)) hx hb dX4_asked_99 (by decide) ?_
          refine lv_icmp_eq (tgt := 137) hx hb dX4_asked_101 (by decide) (fun c_101 => ?_) (fun c_101 => ?_)
          · refine lv_iload hx hb dX4_asked_137 (lv_at hl 8 rfl) ?_
            refine lv_istore (lv' := [(5, .int x7), (8, .int (((M_parts M) x1.toNatClampNeg) + (f_X4_partsOf M x7))), (0, .ref (ad 0)), (1, .int x1), (2, .int x2), (3, .int x3), (4, .int x4), (6, .int x6), (7, .int x7)]) hx hb dX4_asked_139 hl (by decide) rfl (fun ls hl => ?_)
            refine lv_iload hx hb dX4_asked_141 (lv_at hl 1 rfl) ?_
            refine lv_istore (lv' := [(6, .int (((M_parts M) x1.toNatClampNeg) + (f_X4_partsOf M x7))), (5, .int x7), (8, .int (((M_parts M) x1.toNatClampNeg) + (f_X4_partsOf M x7))), (0, .ref (ad 0)), (1, .int x1), (2, .int x2), (3, .int x3), (4, .int x4), (7, .int x7)]) hx hb dX4_asked_143 hl (by decide) rfl (fun ls hl => ?_)
            refine lv_iinc (v := (x7 + (1 : Int32))) (lv' := [(7, .int (x7 + (1 : Int32))), (6, .int (((M_parts M) x1.toNatClampNeg) + (f_X4_partsOf M x7))), (5, .int x7), (8, .int (((M_parts M) x1.toNatClampNeg) + (f_X4_partsOf M x7))), (0, .ref (ad 0)), (1, .int x1), (2, .int x2), (3, .int x3), (4, .int x4)]) hx hb dX4_asked_145 hl (k := 8) rfl rfl (by decide) rfl (fun ls hl => ?_)
            refine lv_goto (tgt := 55) hx hb dX4_asked_148 (by decide) ?_
            have hF : fL_X4_asked_55 M x1 x2 x3 x4 (k + 1) x5 x6 x7 = fL_X4_asked_55 M x1 x2 x3 x4 k x7 (((M_parts M) x1.toNatClampNeg) + (f_X4_partsOf M x7)) (x7 + (1 : Int32)) := by rw [fL_X4_asked_55, if_neg c_63, if_pos c_88, if_neg c_94, if_pos c_101]
            rw [hF]
            exact ih x7 (((M_parts M) x1.toNatClampNeg) + (f_X4_partsOf M x7)) (x7 + (1 : Int32)) (lp_pre h0 c_63) (lp_mu h0 c_63 hk) _ _ hP hD hS ls (lv_sub hl [4, 5, 6, 7, 8, 2, 1, 0] rfl)
          · refine lv_iload hx hb dX4_asked_104 (lv_at hl 8 rfl) ?_
            refine kc_S (As := [.int x7]) (rest := []) B (c_X4_size l D cI cO tF x7 ) (va_cwS 1 hts gX4_asked_X4_size rfl rfl rfl (by decide +kernel) ⟨Nat.le_of_ble_eq_true rfl, Nat.le_of_ble_eq_true rfl⟩) hP hD hS [] rfl (by decide) (w' := wM ad cI M) rfl rfl rfl hl.1 rfl (Nat.le_of_ble_eq_true rfl) dX4_asked_106 ⟨Nat.zero_le _, Nat.zero_le _⟩ (fun H locs hP hD hS => ?_)
            have hD : va_D A (wM ad cI M) := hD
            refine lv_iload hx hb dX4_asked_109 (lv_at hl 6 rfl) ?_
            refine kc_S (As := [.int x5]) (rest := [.int (f_X4_size x7)]) B (c_X4_size l D cI cO tF x5 ) (va_cwS 1 hts gX4_asked_X4_size rfl rfl rfl (by decide +kernel) ⟨Nat.le_of_ble_eq_true rfl, Nat.le_of_ble_eq_true rfl⟩) hP hD hS [] rfl (by decide) (w' := wM ad cI M) rfl rfl rfl hl.1 rfl (Nat.le_of_ble_eq_true rfl) dX4_asked_111 ⟨Nat.zero_le _, Nat.zero_le _⟩ (fun H locs hP hD hS => ?_)
            have hD : va_D A (wM ad cI M) := hD
            refine lv_icmp_lt (tgt := 137) hx hb dX4_asked_114 (by decide) (fun c_114 => ?_) (fun c_114 => ?_)
            · refine lv_iload hx hb dX4_asked_137 (lv_at hl 8 rfl) ?_
              refine lv_istore (lv' := [(5, .int x7), (8, .int (((M_parts M) x1.toNatClampNeg) + (f_X4_partsOf M x7))), (0, .ref (ad 0)), (1, .int x1), (2, .int x2), (3, .int x3), (4, .int x4), (6, .int x6), (7, .int x7)]) hx hb dX4_asked_139 hl (by decide) rfl (fun ls hl => ?_)
              refine lv_iload hx hb dX4_asked_141 (lv_at hl 1 rfl) ?_
              refine lv_istore (lv' := [(6, .int (((M_parts M) x1.toNatClampNeg) + (f_X4_partsOf M x7))), (5, .int x7), (8, .int (((M_parts M) x1.toNatClampNeg) + (f_X4_partsOf M x7))), (0, .ref (ad 0)), (1, .int x1), (2, .int x2), (3, .int x3), (4, .int x4), (7, .int x7)]) hx hb dX4_asked_143 hl (by decide) rfl (fun ls hl => ?_)
              refine lv_iinc (v := (x7 + (1 : Int32))) (lv' := [(7, .int (x7 + (1 : Int32))), (6, .int (((M_parts M) x1.toNatClampNeg) + (f_X4_partsOf M x7))), (5, .int x7), (8, .int (((M_parts M) x1.toNatClampNeg) + (f_X4_partsOf M x7))), (0, .ref (ad 0)), (1, .int x1), (2, .int x2), (3, .int x3), (4, .int x4)]) hx hb dX4_asked_145 hl (k := 8) rfl rfl (by decide) rfl (fun ls hl => ?_)
              refine lv_goto (tgt := 55) hx hb dX4_asked_148 (by decide) ?_
              have hF : fL_X4_asked_55 M x1 x2 x3 x4 (k + 1) x5 x6 x7 = fL_X4_asked_55 M x1 x2 x3 x4 k x7 (((M_parts M) x1.toNatClampNeg) + (f_X4_partsOf M x7)) (x7 + (1 : Int32)) := by rw [fL_X4_asked_55, if_neg c_63, if_pos c_88, if_neg c_94, if_neg c_101, if_pos c_114]
              rw [hF]
              exact ih x7 (((M_parts M) x1.toNatClampNeg) + (f_X4_partsOf M x7)) (x7 + (1 : Int32)) (lp_pre h0 c_63) (lp_mu h0 c_63 hk) _ _ hP hD hS ls (lv_sub hl [4, 5, 6, 7, 8, 2, 1, 0] rfl)
            · refine lv_iload hx hb dX4_asked_117 (lv_at hl 8 rfl) ?_
              refine kc_S (As := [.int x7]) (rest := []) B (c_X4_size l D cI cO tF x7 ) (va_cwS 1 hts gX4_asked_X4_size rfl rfl rfl (by decide +kernel) ⟨Nat.le_of_ble_eq_true rfl, Nat.le_of_ble_eq_true rfl⟩) hP hD hS [] rfl (by decide) (w' := wM ad cI M) rfl rfl rfl hl.1 rfl (Nat.le_of_ble_eq_true rfl) dX4_asked_119 ⟨Nat.zero_le _, Nat.zero_le _⟩ (fun H locs hP hD hS => ?_)
              have hD : va_D A (wM ad cI M) := hD
              refine lv_iload hx hb dX4_asked_122 (lv_at hl 6 rfl) ?_
              refine kc_S (As := [.int x5]) (rest := [.int (f_X4_size x7)]) B (c_X4_size l D cI cO tF x5 ) (va_cwS 1 hts gX4_asked_X4_size rfl rfl rfl (by decide +kernel) ⟨Nat.le_of_ble_eq_true rfl, Nat.le_of_ble_eq_true rfl⟩) hP hD hS [] rfl (by decide) (w' := wM ad cI M) rfl rfl rfl hl.1 rfl (Nat.le_of_ble_eq_true rfl) dX4_asked_124 ⟨Nat.zero_le _, Nat.zero_le _⟩ (fun H locs hP hD hS => ?_)
              have hD : va_D A (wM ad cI M) := hD
              refine lv_icmp_ne (tgt := 145) hx hb dX4_asked_127 (by decide) (fun c_127 => ?_) (fun c_127 => ?_)
              · refine lv_iinc (v := (x7 + (1 : Int32))) (lv' := [(7, .int (x7 + (1 : Int32))), (8, .int (((M_parts M) x1.toNatClampNeg) + (f_X4_partsOf M x7))), (0, .ref (ad 0)), (1, .int x1), (2, .int x2), (3, .int x3), (4, .int x4), (5, .int x5), (6, .int x6)]) hx hb dX4_asked_145 hl (k := 8) rfl rfl (by decide) rfl (fun ls hl => ?_)
                refine lv_goto (tgt := 55) hx hb dX4_asked_148 (by decide) ?_
                have hF : fL_X4_asked_55 M x1 x2 x3 x4 (k + 1) x5 x6 x7 = fL_X4_asked_55 M x1 x2 x3 x4 k x5 x6 (x7 + (1 : Int32)) := by rw [fL_X4_asked_55, if_neg c_63, if_pos c_88, if_neg c_94, if_neg c_101, if_neg c_114, if_neg c_127]
                rw [hF]
                exact ih x5 x6 (x7 + (1 : Int32)) (lp_pre h0 c_63) (lp_mu h0 c_63 hk) _ _ hP hD hS ls (lv_sub hl [2, 3, 4, 5, 6, 7, 8, 0] rfl)
              · refine lv_iload hx hb dX4_asked_130 (lv_at hl 0 rfl) ?_
                refine lv_iload hx hb dX4_asked_132 (lv_at hl 7 rfl) ?_
                refine lv_icmp_ge (tgt := 145) hx hb dX4_asked_134 (by decide) (fun c_134 => ?_) (fun c_134 => ?_)
                · refine lv_iinc (v := (x7 + (1 : Int32))) (lv' := [(7, .int (x7 + (1 : Int32))), (8, .int (((M_parts M) x1.toNatClampNeg) + (f_X4_partsOf M x7))), (0, .ref (ad 0)), (1, .int x1), (2, .int x2), (3, .int x3), (4, .int x4), (5, .int x5), (6, .int x6)]) hx hb dX4_asked_145 hl (k := 8) rfl rfl (by decide) rfl (fun ls hl => ?_)
                  refine lv_goto (tgt := 55) hx hb dX4_asked_148 (by decide) ?_
                  have hF : fL_X4_asked_55 M x1 x2 x3 x4 (k + 1) x5 x6 x7 = fL_X4_asked_55 M x1 x2 x3 x4 k x5 x6 (x7 + (1 : Int32)) := by rw [fL_X4_asked_55, if_neg c_63, if_pos c_88, if_neg c_94, if_neg c_101, if_neg c_114, if_pos c_127, if_pos c_134]
                  rw [hF]
                  exact ih x5 x6 (x7 + (1 : Int32)) (lp_pre h0 c_63) (lp_mu h0 c_63 hk) _ _ hP hD hS ls (lv_sub hl [2, 3, 4, 5, 6, 7, 8, 0] rfl)
                · refine lv_iload hx hb dX4_asked_137 (lv_at hl 8 rfl) ?_
                  refine lv_istore (lv' := [(5, .int x7), (8, .int (((M_parts M) x1.toNatClampNeg) + (f_X4_partsOf M x7))), (0, .ref (ad 0)), (1, .int x1), (2, .int x2), (3, .int x3), (4, .int x4), (6, .int x6), (7, .int x7)]) hx hb dX4_asked_139 hl (by decide) rfl (fun ls hl => ?_)
                  refine lv_iload hx hb dX4_asked_141 (lv_at hl 1 rfl) ?_
                  refine lv_istore (lv' := [(6, .int (((M_parts M) x1.toNatClampNeg) + (f_X4_partsOf M x7))), (5, .int x7), (8, .int (((M_parts M) x1.toNatClampNeg) + (f_X4_partsOf M x7))), (0, .ref (ad 0)), (1, .int x1), (2, .int x2), (3, .int x3), (4, .int x4), (7, .int x7)]) hx hb dX4_asked_143 hl (by decide) rfl (fun ls hl => ?_)
                  refine lv_iinc (v := (x7 + (1 : Int32))) (lv' := [(7, .int (x7 + (1 : Int32))), (6, .int (((M_parts M) x1.toNatClampNeg) + (f_X4_partsOf M x7))), (5, .int x7), (8, .int (((M_parts M) x1.toNatClampNeg) + (f_X4_partsOf M x7))), (0, .ref (ad 0)), (1, .int x1), (2, .int x2), (3, .int x3), (4, .int x4)]) hx hb dX4_asked_145 hl (k := 8) rfl rfl (by decide) rfl (fun ls hl => ?_)
                  refine lv_goto (tgt := 55) hx hb dX4_asked_148 (by decide) ?_
                  have hF : fL_X4_asked_55 M x1 x2 x3 x4 (k + 1) x5 x6 x7 = fL_X4_asked_55 M x1 x2 x3 x4 k x7 (((M_parts M) x1.toNatClampNeg) + (f_X4_partsOf M x7)) (x7 + (1 : Int32)) := by rw [fL_X4_asked_55, if_neg c_63, if_pos c_88, if_neg c_94, if_neg c_101, if_neg c_114, if_pos c_127, if_neg c_134]
                  rw [hF]
                  exact ih x7 (((M_parts M) x1.toNatClampNeg) + (f_X4_partsOf M x7)) (x7 + (1 : Int32)) (lp_pre h0 c_63) (lp_mu h0 c_63 hk) _ _ hP hD hS ls (lv_sub hl [4, 5, 6, 7, 8, 2, 1, 0] rfl)
set_option maxHeartbeats 4000000 in
set_option maxRecDepth 100000 in
theorem c_X4_asked (l : Launch) (D : va_G) (cI cO : ClassId) (tF : Nat) (ad : Nat → Nat) (M : MS) (x1 : Int32) (x2 : Int32) (x3 : Int32) (hn : (M_people M).toInt ≤ 6) : Ct l yX4_asked wsX4_asked ({ frames := 2, cells := 0, slots := 0, locals := 44 }) D cI cO tF [.ref (ad 0), .int x1, .int x2, .int x3] (wM ad cI M) (some (.int (f_X4_asked M x1 x2 x3))) (wM ad cI M) := by
  refine Ct.of (cc := cX4_asked) (maxL := 9) (ret := (some .int)) (own := RX4) (by decide) rfl rfl (Nat.le_of_ble_eq_true rfl) ?_
  intro p e s m args below meth c A ls B hP hD hS hl
  obtain ⟨hx, hb, hret, hml, hts, hown, hlocks, hE, hA⟩ := id B
  have hK := hE.1
  have hl : lv_has ls 9 [(0, .ref (ad 0)), (1, .int x1), (2, .int x2), (3, .int x3)] := hl
  refine lv_aload_n hx hb dX4_asked_0 rfl (lv_at hl 0 rfl) ?_
  refine lv_iload_n hx hb dX4_asked_1 rfl (lv_at hl 1 rfl) ?_
  refine kc_V (As := [.int x1]) (rest := []) B (c_X4_isPerson l D cI cO tF ad M x1 ) (cwV 1 hts gX4_asked_X4_isPerson rfl rfl rfl (by decide +kernel) ⟨Nat.le_of_ble_eq_true rfl, Nat.le_of_ble_eq_true rfl⟩) hP hD hS [0, 1, 2, 3, 4, 5, 6, 7, 8, 9, 10, 11, 12] wM_subA (by decide) (w' := wM ad cI M) (wM_setA _) (wM_fst _) 0 4 rfl rfl rfl rfl hl.1 rfl (Nat.le_of_ble_eq_true rfl) dX4_asked_2 ⟨Nat.zero_le _, Nat.zero_le _⟩ (fun H locs hP hD hS => ?_)
  have hD : va_D A (wM ad cI M) := hD
  refine lv_if_ne (tgt := 10) hx hb dX4_asked_5 (by decide) (fun c_5 => ?_) (fun c_5 => ?_)
  · refine lv_iload_n hx hb dX4_asked_10 rfl (lv_at hl 2 rfl) ?_
    refine lv_iconst (v := (0 : Int32)) hx hb dX4_asked_11 (by decide) ?_
    refine lv_sipush (v := (300 : Int32)) hx hb dX4_asked_12 (by decide) ?_
    refine kc_S (As := [.int x2, .int (0 : Int32), .int (300 : Int32)]) (rest := []) B (c_X4_within l D cI cO tF x2 (0 : Int32) (300 : Int32) ) (va_cwS 3 hts gX4_asked_X4_within rfl rfl rfl (by decide +kernel) ⟨Nat.le_of_ble_eq_true rfl, Nat.le_of_ble_eq_true rfl⟩) hP hD hS [] rfl (by decide) (w' := wM ad cI M) rfl rfl rfl hl.1 rfl (Nat.le_of_ble_eq_true rfl) dX4_asked_15 ⟨Nat.zero_le _, Nat.zero_le _⟩ (fun H locs hP hD hS => ?_)
    have hD : va_D A (wM ad cI M) := hD
    refine lv_if_eq (tgt := 30) hx hb dX4_asked_18 (by decide) (fun c_18 => ?_) (fun c_18 => ?_)
    · refine lv_bipush (v := (-2 : Int32)) hx hb dX4_asked_30 (by decide) ?_
      have hF : f_X4_asked M x1 x2 x3 = (-2 : Int32) := by rw [f_X4_asked, if_neg c_5, if_pos c_18]
      rw [hF]
      exact kr_i B hP hS rfl rfl dX4_asked_32
    · refine lv_iload_n hx hb dX4_asked_21 rfl (lv_at hl 3 rfl) ?_
      refine lv_iconst (v := (0 : Int32)) hx hb dX4_asked_22 (by decide) ?_
      refine lv_iconst (v := (1 : Int32)) hx hb dX4_asked_23 (by decide) ?_
      refine kc_S (As := [.int x3, .int (0 : Int32), .int (1 : Int32)]) (rest := []) B (c_X4_within l D cI cO tF x3 (0 : Int32) (1 : Int32) ) (va_cwS 3 hts gX4_asked_X4_within rfl rfl rfl (by decide +kernel) ⟨Nat.le_of_ble_eq_true rfl, Nat.le_of_ble_eq_true rfl⟩) hP hD hS [] rfl (by decide) (w' := wM ad cI M) rfl rfl rfl hl.1 rfl (Nat.le_of_ble_eq_true rfl) dX4_asked_24 ⟨Nat.zero_le _, Nat.zero_le _⟩ (fun H locs hP hD hS => ?_)
      have hD : va_D A (wM ad cI M) := hD
      refine lv_if_ne (tgt := 33) hx hb dX4_asked_27 (by decide) (fun c_27 => ?_) (fun c_27 => ?_)
      · refine lv_aload_n hx hb dX4_asked_33 rfl (lv_at hl 0 rfl) ?_
        refine va_get (D := D) (ci := 4) (v := .int (M_isIn M)) (C := RX4) (T := TX4) (N := 24) hx hb hts iw_X4_asked_4 hown hK hP 0 rfl rfl 7 (by decide) (hts (.fieldLink RX4 96 "TownLispModel" "isIn" "I") (by decide +kernel)) (fun _ h9 => h9) rfl dX4_asked_34 ?_
        refine lv_iconst (v := (1 : Int32)) hx hb dX4_asked_37 (by decide) ?_
        refine lv_iload_n hx hb dX4_asked_38 rfl (lv_at hl 1 rfl) ?_
        refine lv_ishl hx hb dX4_asked_39 ?_
        refine lv_iconst (v := (-1 : Int32)) hx hb dX4_asked_40 (by decide) ?_
        refine lv_ixor hx hb dX4_asked_41 ?_
        refine lv_iand hx hb dX4_asked_42 ?_
        refine lv_istore (lv' := [(4, .int ((M_isIn M) &&& (((1 : Int32) <<< (x1 &&& 31)) ^^^ (-1 : Int32)))), (0, .ref (ad 0)), (1, .int x1), (2, .int x2), (3, .int x3)]) hx hb dX4_asked_43 hl (by decide) rfl (fun ls hl => ?_)
        refine lv_bipush (v := (-9 : Int32)) hx hb dX4_asked_45 (by decide) ?_
        refine lv_istore (lv' := [(5, .int (-9 : Int32)), (4, .int ((M_isIn M) &&& (((1 : Int32) <<< (x1 &&& 31)) ^^^ (-1 : Int32)))), (0, .ref (ad 0)), (1, .int x1), (2, .int x2), (3, .int x3)]) hx hb dX4_asked_47 hl (by decide) rfl (fun ls hl => ?_)
        refine lv_iconst (v := (0 : Int32)) hx hb dX4_asked_49 (by decide) ?_
        refine lv_istore (lv' := [(6, .int (0 : Int32)), (5, .int (-9 : Int32)), (4, .int ((M_isIn M) &&& (((1 : Int32) <<< (x1 &&& 31)) ^^^ (-1 : Int32)))), (0, .ref (ad 0)), (1, .int x1), (2, .int x2), (3, .int x3)]) hx hb dX4_asked_50 hl (by decide) rfl (fun ls hl => ?_)
        refine lv_iconst (v := (0 : Int32)) hx hb dX4_asked_52 (by decide) ?_
        refine lv_istore (lv' := [(7, .int (0 : Int32)), (6, .int (0 : Int32)), (5, .int (-9 : Int32)), (4, .int ((M_isIn M) &&& (((1 : Int32) <<< (x1 &&& 31)) ^^^ (-1 : Int32)))), (0, .ref (ad 0)), (1, .int x1), (2, .int x2), (3, .int x3)]) hx hb dX4_asked_53 hl (by decide) rfl (fun ls hl => ?_)
        have hF : f_X4_asked M x1 x2 x3 = fL_X4_asked_55 M x1 x2 x3 ((M_isIn M) &&& (((1 : Int32) <<< (x1 &&& 31)) ^^^ (-1 : Int32))) (((1 : Int32) <<< ((M_people M) &&& 31)).toInt.toNat + 1) (-9 : Int32) (0 : Int32) (0 : Int32) := by rw [f_X4_asked, if_neg c_5, if_neg c_18, if_neg c_27]
        rw [hF]
        exact L_X4_asked_55 l D cI cO tF ad M x1 x2 x3 ((M_isIn M) &&& (((1 : Int32) <<< (x1 &&& 31)) ^^^ (-1 : Int32))) hn B (mi_in hn c_5) (((1 : Int32) <<< ((M_people M) &&& 31)).toInt.toNat + 1) (-9 : Int32) (0 : Int32) (0 : Int32) (Int.le_refl _) (by rw [show (0 : Int32).toInt = 0 from rfl]; omega) _ _ hP hD hS ls (lv_sub hl [4, 5, 6, 7, 3, 2, 1, 0] rfl)
      · refine lv_bipush (v := (-2 : Int32)) hx hb dX4_asked_30 (by decide) ?_
        have hF : f_X4_asked M x1 x2 x3 = (-2 : Int32) := by rw [f_X4_asked, if_neg c_5, if_neg c_18, if_pos c_27]
        rw [hF]
        exact kr_i B hP hS rfl rfl dX4_asked_32
  · refine lv_iconst (v := (-1 : Int32)) hx hb dX4_asked_8 (by decide) ?_
    have hF : f_X4_asked M x1 x2 x3 = (-1 : Int32) := by rw [f_X4_asked, if_pos c_5]
    rw [hF]
    exact kr_i B hP hS rfl rfl dX4_asked_9
def fL_X4_were_53 (M : MS) (x1 : Int32) (x2 : Int32) (x3 : Int32) : Nat → Int32 → Int32 → Int32 → Int32 → Int32
  | 0, _, _, _, _ => 0
  | k + 1, x4, x5, x6, x7 => (if ((1 : Int32) <<< ((M_people M) &&& 31)) ≤ x7 then (if x3 = 0 then x4 else (if x3 = (1 : Int32) then x5 else (if x4 = 0 then x5 else x6))) else (if (f_X4_isOf x7 x1) = 0 then fL_X4_were_53 M x1 x2 x3 k x4 x5 x6 (x7 + (1 : Int32)) else (if (f_X4_shareOf M x7 (0 : Int32) x1) = x2 then (if x5 = (-9 : Int32) then fL_X4_were_53 M x1 x2 x3 k (x4 + (1 : Int32)) x7 (x6 &&& x7) (x7 + (1 : Int32)) else fL_X4_were_53 M x1 x2 x3 k (x4 + (1 : Int32)) x5 (x6 &&& x7) (x7 + (1 : Int32))) else fL_X4_were_53 M x1 x2 x3 k x4 x5 x6 (x7 + (1 : Int32)))))
def f_X4_were (M : MS) (x1 : Int32) (x2 : Int32) (x3 : Int32) : Int32 := (if (f_X4_isPerson M x1) = 0 then (-1 : Int32) else (if (f_X4_within x2 (0 : Int32) (300 : Int32)) = 0 then (-2 : Int32) else (if (f_X4_within x3 (0 : Int32) (2 : Int32)) = 0 then (-2 : Int32) else fL_X4_were_53 M x1 x2 x3 (((1 : Int32) <<< ((M_people M) &&& 31)).toInt.toNat + 1) (0 : Int32) (-9 : Int32) (((1 : Int32) <<< ((M_people M) &&& 31)) - (1 : Int32)) (0 : Int32))))
theorem iw_X4_were_4 : ∀ w ∈ wsX40, w ∈ wsX4_were := fun _ h => List.mem_cons_of_mem _ (List.mem_append_right _ h)
set_option maxHeartbeats 4000000 in
set_option maxRecDepth 100000 in
theorem L_X4_were_53 {p : Program} (l : Launch) {e : Env} {s : State} {m : MethodId} {args : Array Value} {below : List Frame} {meth : Method} {c : Code} {A : Nat → Prop} (D : va_G) (cI cO : ClassId) (tF : Nat) (ad : Nat → Nat) (M : MS) (x1 : Int32) (x2 : Int32) (x3 : Int32) (hn : (M_people M).toInt ≤ 6) (B : Bx p s m args meth c cX4_were 8 (some .int) wsX4_were RX4 D cI cO tF A) (hr : 0 ≤ x1.toInt ∧ x1.toInt < (M_people M).toInt) : ∀ (k : Nat) (x4 : Int32) (x5 : Int32) (x6 : Int32) (x7 : Int32), (0 ≤ x7.toInt) → ((((1 : Int32) <<< ((M_people M) &&& 31)).toInt - x7.toInt).toNat < k) → ∀ (H : Heap) (locs : List Loc), va_P D vwCl (wM ad cI M) H → va_D A (wM ad cI M) → va_S A s.heap H locs → ∀ ls : Array Slot, lv_has ls 8 [(0, .ref (ad 0)), (1, .int x1), (2, .int x2), (3, .int x3), (4, .int x4), (5, .int x5), (6, .int x6), (7, .int x7)] → W p l e ({ frames := 3, cells := 0, slots := 0, locals := 71 }) s m args below meth c H locs 0 0 (MQ below (Qp D (some (.int (fL_X4_were_53 M x1 x2 x3 k x4 x5 x6 x7))) (wM ad cI M) A) args s 0 0 A) (F0 m 53 ls []) := by
  obtain ⟨hx, hb, hret, hml, hts, hown, hlocks, hE, hA⟩ := id B
  have hK := hE.1
  intro k
  induction k with
  | zero =>
    intro x4 x5 x6 x7 h0 hk
    exact absurd hk (Nat.not_lt_zero _)
  | succ k ih =>
    intro x4 x5 x6 x7 h0 hk H locs hP hD hS ls hl
    refine lv_iload hx hb dX4_were_53 (lv_at hl 7 rfl) ?_
    refine lv_iconst (v := (1 : Int32)) hx hb dX4_were_55 (by decide) ?_
    refine lv_aload_n hx hb dX4_were_56 rfl (lv_at hl 0 rfl) ?_
    refine va_get (D := D) (ci := 4) (v := .int (M_people M)) (C := RX4) (T := TX4) (N := 24) hx hb hts iw_X4_were_4 hown hK hP 0 rfl rfl 5 (by decide) (hts (.fieldLink RX4 56 "TownLispModel" "people" "I") (by decide +kernel)) (fun _ h9 => h9) rfl dX4_were_57 ?_
    refine lv_ishl hx hb dX4_were_60 ?_
    refine lv_icmp_ge (tgt := 117) hx hb dX4_were_61 (by decide) (fun c_61 => ?_) (fun c_61 => ?_)
    · refine lv_iload_n hx hb dX4_were_117 rfl (lv_at hl 3 rfl) ?_
      refine lv_if_ne (tgt := 126) hx hb dX4_were_118 (by decide) (fun c_118 => ?_) (fun c_118 => ?_)
      · refine lv_iload_n hx hb dX4_were_126 rfl (lv_at hl 3 rfl) ?_
        refine lv_iconst (v := (1 : Int32)) hx hb dX4_were_127 (by decide) ?_
        refine lv_icmp_eq (tgt := 136) hx hb dX4_were_128 (by decide) (fun c_128 => ?_) (fun c_128 => ?_)
        · refine lv_iload hx hb dX4_were_136 (lv_at hl 5 rfl) ?_
          refine lv_goto (tgt := 143) hx hb dX4_were_138 (by decide) ?_
          have hF : fL_X4_were_53 M x1 x2 x3 (k + 1) x4 x5 x6 x7 = x5 := by rw [fL_X4_were_53, if_pos c_61, if_neg c_118, if_pos c_128]
          rw [hF]
          exact kr_i B hP hS rfl rfl dX4_were_143
        · refine lv_iload hx hb dX4_were_131 (lv_at hl 4 rfl) ?_
          refine lv_if_ne (tgt := 141) hx hb dX4_were_133 (by decide) (fun c_133 => ?_) (fun c_133 => ?_)
          · refine lv_iload hx hb dX4_were_141 (lv_at hl 6 rfl) ?_
            have hF : fL_X4_were_53 M x1 x2 x3 (k + 1) x4 x5 x6 x7 = x6 := by rw [fL_X4_were_53, if_pos c_61, if_neg c_118, if_neg c_128, if_neg c_133]
            rw [hF]
            exact kr_i B hP hS rfl rfl dX4_were_143
          · refine lv_iload hx hb dX4_were_136 (lv_at hl 5 rfl) ?_
            refine lv_goto (tgt := 143) hx hb dX4_were_138 (by decide) ?_
            have hF : fL_X4_were_53 M x1 x2 x3 (k + 1) x4 x5 x6 x7 = x5 := by rw [fL_X4_were_53, if_pos c_61, if_neg c_118, if_neg c_128, if_pos c_133]
            rw [hF]
            exact kr_i B hP hS rfl rfl dX4_were_143
      · refine lv_iload hx hb dX4_were_121 (lv_at hl 4 rfl) ?_
        refine lv_goto (tgt := 143) hx hb dX4_were_123 (by decide) ?_
        have hF : fL_X4_were_53 M x1 x2 x3 (k + 1) x4 x5 x6 x7 = x4 := by rw [fL_X4_were_53, if_pos c_61, if_pos c_118]
        rw [hF]
        exact kr_i B hP hS rfl rfl dX4_were_143
    · refine lv_iload hx hb dX4_were_64 (lv_at hl 7 rfl) ?_
      refine lv_iload_n hx hb dX4_were_66 rfl (lv_at hl 1 rfl) ?_
      refine kc_S (As := [.int x7, .int x1]) (rest := []) B (c_X4_isOf l D cI cO tF x7 x1 ) (va_cwS 2 hts gX4_were_X4_isOf rfl rfl rfl (by decide +kernel) ⟨Nat.le_of_ble_eq_true rfl, Nat.le_of_ble_eq_true rfl⟩) hP hD hS [] rfl (by decide) (w' := wM ad cI M) rfl rfl rfl hl.1 rfl (Nat.le_of_ble_eq_true rfl) dX4_were_67 ⟨Nat.zero_le _, Nat.zero_le _⟩ (fun H locs hP hD hS => ?_)
      have hD : va_D A (wM ad cI M) := hD
      refine lv_if_eq (tgt := 111) hx hb dX4_were_70 (by decide) (fun c_70 => ?_) (fun c_70 => ?_)
      · refine lv_iinc (v := (x7 + (1 : Int32))) (lv' := [(7, .int (x7 + (1 : Int32))), (0, .ref (ad 0)), (1, .int x1), (2, .int x2), (3, .int x3), (4, .int x4), (5, .int x5), (6, .int x6)]) hx hb dX4_were_111 hl (k := 7) rfl rfl (by decide) rfl (fun ls hl => ?_)
        refine lv_goto (tgt := 53) hx hb dX4_were_114 (by decide) ?_
        have hF : fL_X4_were_53 M x1 x2 x3 (k + 1) x4 x5 x6 x7 = fL_X4_were_53 M x1 x2 x3 k x4 x5 x6 (x7 + (1 : Int32)) := by rw [fL_X4_were_53, if_neg c_61, if_pos c_70]
        rw [hF]
        exact ih x4 x5 x6 (x7 + (1 : Int32)) (lp_pre h0 c_61) (lp_mu h0 c_61 hk) _ _ hP hD hS ls (lv_sub hl [1, 2, 3, 4, 5, 6, 7, 0] rfl)
      · refine lv_aload_n hx hb dX4_were_73 rfl (lv_at hl 0 rfl) ?_
        refine lv_iload hx hb dX4_were_74 (lv_at hl 7 rfl) ?_
        refine lv_iconst (v := (0 : Int32)) hx hb dX4_were_76 (by decide) ?_
        refine lv_iload_n hx hb dX4_were_77 rfl (lv_at hl 1 rfl) ?_
        refine kc_V (As := [.int x7, .int (0 : Int32), .int x1]) (rest := []) B (c_X4_shareOf l D cI cO tF ad M x7 (0 : Int32) x1 (hn) (mem_sz hn hr h0 c_61 c_70) (q_n0 hr) (hr)) (cwV 3 hts gX4_were_X4_shareOf rfl rfl rfl (by decide +kernel) ⟨Nat.le_of_ble_eq_true rfl, Nat.le_of_ble_eq_true rfl⟩) hP hD hS [0, 1, 2, 3, 4, 5, 6, 7, 8, 9, 10, 11, 12] wM_subA (by decide) (w' := wM ad cI M) (wM_setA _) (wM_fst _) 0 4 rfl rfl rfl rfl hl.1 rfl (Nat.le_of_ble_eq_true rfl) dX4_were_78 ⟨Nat.zero_le _, Nat.zero_le _⟩ (fun H locs hP hD hS => ?_)
        have hD : va_D A (wM ad cI M) := hD
        refine lv_iload_n hx hb dX4_were_81 rfl (lv_at hl 2 rfl) ?_
        refine lv_icmp_ne (tgt := 111) hx hb dX4_were_82 (by decide) (fun c_82 => ?_) (fun c_82 => ?_)
        · refine lv_iinc (v := (x7 + (1 : Int32))) (lv' := [(7, .int (x7 + (1 : Int32))), (0, .ref (ad 0)), (1, .int x1), (2, .int x2), (3, .int x3), (4, .int x4), (5, .int x5), (6, .int x6)]) hx hb dX4_were_111 hl (k := 7) rfl rfl (by decide) rfl (fun ls hl => ?_)
          refine lv_goto (tgt := 53) hx hb dX4_were_114 (by decide) ?_
          have hF : fL_X4_were_53 M x1 x2 x3 (k + 1) x4 x5 x6 x7 = fL_X4_were_53 M x1 x2 x3 k x4 x5 x6 (x7 + (1 : Int32)) := by rw [fL_X4_were_53, if_neg c_61, if_neg c_70, if_neg c_82]
          rw [hF]
          exact ih x4 x5 x6 (x7 + (1 : Int32)) (lp_pre h0 c_61) (lp_mu h0 c_61 hk) _ _ hP hD hS ls (lv_sub hl [1, 2, 3, 4, 5, 6, 7, 0] rfl)
        · refine lv_iinc (v := (x4 + (1 : Int32))) (lv' := [(4, .int (x4 + (1 : Int32))), (0, .ref (ad 0)), (1, .int x1), (2, .int x2), (3, .int x3), (5, .int x5), (6, .int x6), (7, .int x7)]) hx hb dX4_were_85 hl (k := 4) rfl rfl (by decide) rfl (fun ls hl => ?_)
          refine lv_iload hx hb dX4_were_88 (lv_at hl 5 rfl) ?_
          refine lv_bipush (v := (-9 : Int32)) hx hb dX4_were_90 (by decide) ?_
          refine lv_icmp_ne (tgt := 100) hx hb dX4_were_92 (by decide) (fun c_92 => ?_) (fun c_92 => ?_)
          · refine lv_iload hx hb dX4_were_100 (lv_at hl 5 rfl) ?_
            refine lv_istore (lv' := [(5, .int x5), (4, .int (x4 + (1 : Int32))), (0, .ref (ad 0)), (1, .int x1), (2, .int x2), (3, .int x3), (6, .int x6), (7, .int x7)]) hx hb dX4_were_102 hl (by decide) rfl (fun ls hl => ?_)
            refine lv_iload hx hb dX4_were_104 (lv_at hl 6 rfl) ?_
            refine lv_iload hx hb dX4_were_106 (lv_at hl 7 rfl) ?_
            refine lv_iand hx hb dX4_were_108 ?_
            refine lv_istore (lv' := [(6, .int (x6 &&& x7)), (5, .int x5), (4, .int (x4 + (1 : Int32))), (0, .ref (ad 0)), (1, .int x1), (2, .int x2), (3, .int x3), (7, .int x7)]) hx hb dX4_were_109 hl (by decide) rfl (fun ls hl => ?_)
            refine lv_iinc (v := (x7 + (1 : Int32))) (lv' := [(7, .int (x7 + (1 : Int32))), (6, .int (x6 &&& x7)), (5, .int x5), (4, .int (x4 + (1 : Int32))), (0, .ref (ad 0)), (1, .int x1), (2, .int x2), (3, .int x3)]) hx hb dX4_were_111 hl (k := 7) rfl rfl (by decide) rfl (fun ls hl => ?_)
            refine lv_goto (tgt := 53) hx hb dX4_were_114 (by decide) ?_
            have hF : fL_X4_were_53 M x1 x2 x3 (k + 1) x4 x5 x6 x7 = fL_X4_were_53 M x1 x2 x3 k (x4 + (1 : Int32)) x5 (x6 &&& x7) (x7 + (1 : Int32)) := by rw [fL_X4_were_53, if_neg c_61, if_neg c_70, if_pos c_82, if_neg c_92]
            rw [hF]
            exact ih (x4 + (1 : Int32)) x5 (x6 &&& x7) (x7 + (1 : Int32)) (lp_pre h0 c_61) (lp_mu h0 c_61 hk) _ _ hP hD hS ls (lv_sub hl [4, 5, 6, 7, 3, 2, 1, 0] rfl)
          · refine lv_iload hx hb dX4_were_95 (lv_at hl 7 rfl) ?_
            refine lv_goto (tgt := 102) hx hb dX4_were_97 (by decide) ?_
            refine lv_istore (lv' := [(5, .int x7), (4, .int (x4 + (1 : Int32))), (0, .ref (ad 0)), (1, .int x1), (2, .int x2), (3, .int x3), (6, .int x6), (7, .int x7)]) hx hb dX4_were_102 hl (by decide) rfl (fun ls hl => ?_)
            refine lv_iload hx hb dX4_were_104 (lv_at hl 6 rfl) ?_
            refine lv_iload hx hb dX4_were_106 (lv_at hl 7 rfl) ?_
            refine lv_iand hx hb dX4_were_108 ?_
            refine lv_istore (lv' := [(6, .int (x6 &&& x7)), (5, .int x7), (4, .int (x4 + (1 : Int32))), (0, .ref (ad 0)), (1, .int x1), (2, .int x2), (3, .int x3), (7, .int x7)]) hx hb dX4_were_109 hl (by decide) rfl (fun ls hl => ?_)
            refine lv_iinc (v := (x7 + (1 : Int32))) (lv' := [(7, .int (x7 + (1 : Int32))), (6, .int (x6 &&& x7)), (5, .int x7), (4, .int (x4 + (1 : Int32))), (0, .ref (ad 0)), (1, .int x1), (2, .int x2), (3, .int x3)]) hx hb dX4_were_111 hl (k := 7) rfl rfl (by decide) rfl (fun ls hl => ?_)
            refine lv_goto (tgt := 53) hx hb dX4_were_114 (by decide) ?_
            have hF : fL_X4_were_53 M x1 x2 x3 (k + 1) x4 x5 x6 x7 = fL_X4_were_53 M x1 x2 x3 k (x4 + (1 : Int32)) x7 (x6 &&& x7) (x7 + (1 : Int32)) := by rw [fL_X4_were_53, if_neg c_61, if_neg c_70, if_pos c_82, if_pos c_92]
            rw [hF]
            exact ih (x4 + (1 : Int32)) x7 (x6 &&& x7) (x7 + (1 : Int32)) (lp_pre h0 c_61) (lp_mu h0 c_61 hk) _ _ hP hD hS ls (lv_sub hl [4, 5, 6, 7, 3, 2, 1, 0] rfl)
set_option maxHeartbeats 4000000 in
set_option maxRecDepth 100000 in
theorem c_X4_were (l : Launch) (D : va_G) (cI cO : ClassId) (tF : Nat) (ad : Nat → Nat) (M : MS) (x1 : Int32) (x2 : Int32) (x3 : Int32) (hn : (M_people M).toInt ≤ 6) : Ct l yX4_were wsX4_were ({ frames := 3, cells := 0, slots := 0, locals := 71 }) D cI cO tF [.ref (ad 0), .int x1, .int x2, .int x3] (wM ad cI M) (some (.int (f_X4_were M x1 x2 x3))) (wM ad cI M) := by
  refine Ct.of (cc := cX4_were) (maxL := 8) (ret := (some .int)) (own := RX4) (by decide) rfl rfl (Nat.le_of_ble_eq_true rfl) ?_
  intro p e s m args below meth c A ls B hP hD hS hl
  obtain ⟨hx, hb, hret, hml, hts, hown, hlocks, hE, hA⟩ := id B
  have hK := hE.1
  have hl : lv_has ls 8 [(0, .ref (ad 0)), (1, .int x1), (2, .int x2), (3, .int x3)] := hl
  refine lv_aload_n hx hb dX4_were_0 rfl (lv_at hl 0 rfl) ?_
  refine lv_iload_n hx hb dX4_were_1 rfl (lv_at hl 1 rfl) ?_
  refine kc_V (As := [.int x1]) (rest := []) B (c_X4_isPerson l D cI cO tF ad M x1 ) (cwV 1 hts gX4_were_X4_isPerson rfl rfl rfl (by decide +kernel) ⟨Nat.le_of_ble_eq_true rfl, Nat.le_of_ble_eq_true rfl⟩) hP hD hS [0, 1, 2, 3, 4, 5, 6, 7, 8, 9, 10, 11, 12] wM_subA (by decide) (w' := wM ad cI M) (wM_setA _) (wM_fst _) 0 4 rfl rfl rfl rfl hl.1 rfl (Nat.le_of_ble_eq_true rfl) dX4_were_2 ⟨Nat.zero_le _, Nat.zero_le _⟩ (fun H locs hP hD hS => ?_)
  have hD : va_D A (wM ad cI M) := hD
  refine lv_if_ne (tgt := 10) hx hb dX4_were_5 (by decide) (fun c_5 => ?_) (fun c_5 => ?_)
  · refine lv_iload_n hx hb dX4_were_10 rfl (lv_at hl 2 rfl) ?_
    refine lv_iconst (v := (0 : Int32)) hx hb dX4_were_11 (by decide) ?_
    refine lv_sipush (v := (300 : Int32)) hx hb dX4_were_12 (by decide) ?_
    refine kc_S (As := [.int x2, .int (0 : Int32), .int (300 : Int32)]) (rest := []) B (c_X4_within l D cI cO tF x2 (0 : Int32) (300 : Int32) ) (va_cwS 3 hts gX4_were_X4_within rfl rfl rfl (by decide +kernel) ⟨Nat.le_of_ble_eq_true rfl, Nat.le_of_ble_eq_true rfl⟩) hP hD hS [] rfl (by decide) (w' := wM ad cI M) rfl rfl rfl hl.1 rfl (Nat.le_of_ble_eq_true rfl) dX4_were_15 ⟨Nat.zero_le _, Nat.zero_le _⟩ (fun H locs hP hD hS => ?_)
    have hD : va_D A (wM ad cI M) := hD
    refine lv_if_eq (tgt := 30) hx hb dX4_were_18 (by decide) (fun c_18 => ?_) (fun c_18 => ?_)
    · refine lv_bipush (v := (-2 : Int32)) hx hb dX4_were_30 (by decide) ?_
      have hF : f_X4_were M x1 x2 x3 = (-2 : Int32) := by rw [f_X4_were, if_neg c_5, if_pos c_18]
      rw [hF]
      exact kr_i B hP hS rfl rfl dX4_were_32
    · refine lv_iload_n hx hb dX4_were_21 rfl (lv_at hl 3 rfl) ?_
      refine lv_iconst (v := (0 : Int32)) hx hb dX4_were_22 (by decide) ?_
      refine lv_iconst (v := (2 : Int32)) hx hb dX4_were_23 (by decide) ?_
      refine kc_S (As := [.int x3, .int (0 : Int32), .int (2 : Int32)]) (rest := []) B (c_X4_within l D cI cO tF x3 (0 : Int32) (2 : Int32) ) (va_cwS 3 hts gX4_were_X4_within rfl rfl rfl (by decide +kernel) ⟨Nat.le_of_ble_eq_true rfl, Nat.le_of_ble_eq_true rfl⟩) hP hD hS [] rfl (by decide) (w' := wM ad cI M) rfl rfl rfl hl.1 rfl (Nat.le_of_ble_eq_true rfl) dX4_were_24 ⟨Nat.zero_le _, Nat.zero_le _⟩ (fun H locs hP hD hS => ?_)
      have hD : va_D A (wM ad cI M) := hD
      refine lv_if_ne (tgt := 33) hx hb dX4_were_27 (by decide) (fun c_27 => ?_) (fun c_27 => ?_)
      · refine lv_iconst (v := (0 : Int32)) hx hb dX4_were_33 (by decide) ?_
        refine lv_istore (lv' := [(4, .int (0 : Int32)), (0, .ref (ad 0)), (1, .int x1), (2, .int x2), (3, .int x3)]) hx hb dX4_were_34 hl (by decide) rfl (fun ls hl => ?_)
        refine lv_bipush (v := (-9 : Int32)) hx hb dX4_were_36 (by decide) ?_
        refine lv_istore (lv' := [(5, .int (-9 : Int32)), (4, .int (0 : Int32)), (0, .ref (ad 0)), (1, .int x1), (2, .int x2), (3, .int x3)]) hx hb dX4_were_38 hl (by decide) rfl (fun ls hl => ?_)
        refine lv_iconst (v := (1 : Int32)) hx hb dX4_were_40 (by decide) ?_
        refine lv_aload_n hx hb dX4_were_41 rfl (lv_at hl 2 rfl) ?_
        refine va_get (D := D) (ci := 4) (v := .int (M_people M)) (C := RX4) (T := TX4) (N := 24) hx hb hts iw_X4_were_4 hown hK hP 0 rfl rfl 5 (by decide) (hts (.fieldLink RX4 56 "TownLispModel" "people" "I") (by decide +kernel)) (fun _ h9 => h9) rfl dX4_were_42 ?_
        refine lv_ishl hx hb dX4_were_45 ?_
        refine lv_iconst (v := (1 : Int32)) hx hb dX4_were_46 (by decide) ?_
        refine lv_isub hx hb dX4_were_47 ?_
        refine lv_istore (lv' := [(6, .int (((1 : Int32) <<< ((M_people M) &&& 31)) - (1 : Int32))), (5, .int (-9 : Int32)), (4, .int (0 : Int32)), (0, .ref (ad 0)), (1, .int x1), (2, .int x2), (3, .int x3)]) hx hb dX4_were_48 hl (by decide) rfl (fun ls hl => ?_)
        refine lv_iconst (v := (0 : Int32)) hx hb dX4_were_50 (by decide) ?_
        refine lv_istore (lv' := [(7, .int (0 : Int32)), (6, .int (((1 : Int32) <<< ((M_people M) &&& 31)) - (1 : Int32))), (5, .int (-9 : Int32)), (4, .int (0 : Int32)), (0, .ref (ad 0)), (1, .int x1), (2, .int x2), (3, .int x3)]) hx hb dX4_were_51 hl (by decide) rfl (fun ls hl => ?_)
        have hF : f_X4_were M x1 x2 x3 = fL_X4_were_53 M x1 x2 x3 (((1 : Int32) <<< ((M_people M) &&& 31)).toInt.toNat + 1) (0 : Int32) (-9 : Int32) (((1 : Int32) <<< ((M_people M) &&& 31)) - (1 : Int32)) (0 : Int32) := by rw [f_X4_were, if_neg c_5, if_neg c_18, if_neg c_27]
        rw [hF]
        exact L_X4_were_53 l D cI cO tF ad M x1 x2 x3 hn B (mi_r c_5) (((1 : Int32) <<< ((M_people M) &&& 31)).toInt.toNat + 1) (0 : Int32) (-9 : Int32) (((1 : Int32) <<< ((M_people M) &&& 31)) - (1 : Int32)) (0 : Int32) (Int.le_refl _) (by rw [show (0 : Int32).toInt = 0 from rfl]; omega) _ _ hP hD hS ls (lv_sub hl [4, 5, 6, 7, 3, 2, 1, 0] rfl)
      · refine lv_bipush (v := (-2 : Int32)) hx hb dX4_were_30 (by decide) ?_
        have hF : f_X4_were M x1 x2 x3 = (-2 : Int32) := by rw [f_X4_were, if_neg c_5, if_neg c_18, if_pos c_27]
        rw [hF]
        exact kr_i B hP hS rfl rfl dX4_were_32
  · refine lv_iconst (v := (-1 : Int32)) hx hb dX4_were_8 (by decide) ?_
    have hF : f_X4_were M x1 x2 x3 = (-1 : Int32) := by rw [f_X4_were, if_pos c_5]
    rw [hF]
    exact kr_i B hP hS rfl rfl dX4_were_9
def fL_X4_odds_38 (M : MS) (x1 : Int32) (x2 : Int32) (x3 : Int32) : Nat → Int32 → Int32 → Int64
  | 0, _, _ => 0
  | k + 1, x4, x5 => (if ((1 : Int32) <<< ((M_people M) &&& 31)) ≤ x5 then (f_X4_inLeastTerms x4.toInt64 ((1 : Int64) <<< ((M_people M).toInt64 &&& 63)) x3) else (if (f_X4_isOf x5 x1) = 0 then fL_X4_odds_38 M x1 x2 x3 k (x4 + (0 : Int32)) (x5 + (1 : Int32)) else (if (f_X4_saysBy M x1 (f_X4_shareOf M x5 (0 : Int32) x1)) < x2 then fL_X4_odds_38 M x1 x2 x3 k (x4 + (0 : Int32)) (x5 + (1 : Int32)) else fL_X4_odds_38 M x1 x2 x3 k (x4 + (1 : Int32)) (x5 + (1 : Int32)))))
def f_X4_odds (M : MS) (x1 : Int32) (x2 : Int32) (x3 : Int32) : Int64 := (if (f_X4_isPerson M x1) = 0 then (-9223372036854775808 : Int64) else (if (f_X4_within x2 (0 : Int32) (600 : Int32)) = 0 then (-9223372036854775808 : Int64) else (if (f_X4_within x3 (0 : Int32) (1 : Int32)) = 0 then (-9223372036854775808 : Int64) else fL_X4_odds_38 M x1 x2 x3 (((1 : Int32) <<< ((M_people M) &&& 31)).toInt.toNat + 1) (0 : Int32) (0 : Int32))))
theorem iw_X4_odds_4 : ∀ w ∈ wsX40, w ∈ wsX4_odds := fun _ h => List.mem_cons_of_mem _ (List.mem_append_right _ h)
set_option maxHeartbeats 4000000 in
set_option maxRecDepth 100000 in
theorem L_X4_odds_38 {p : Program} (l : Launch) {e : Env} {s : State} {m : MethodId} {args : Array Value} {below : List Frame} {meth : Method} {c : Code} {A : Nat → Prop} (D : va_G) (cI cO : ClassId) (tF : Nat) (ad : Nat → Nat) (M : MS) (x1 : Int32) (x2 : Int32) (x3 : Int32) (hn : (M_people M).toInt ≤ 6) (ht : ∀ i : Nat, (i : Int) < (M_people M).toInt → ¬ M_thick M i = 0) (B : Bx p s m args meth c cX4_odds 6 (some .long) wsX4_odds RX4 D cI cO tF A) (hr : 0 ≤ x1.toInt ∧ x1.toInt < (M_people M).toInt) (ht0 : ¬ (M_thick M x1.toNatClampNeg) = 0) : ∀ (k : Nat) (x4 : Int32) (x5 : Int32), (0 ≤ x4.toInt ∧ x4.toInt ≤ x5.toInt) → (0 ≤ x5.toInt) → ((((1 : Int32) <<< ((M_people M) &&& 31)).toInt - x5.toInt).toNat < k) → ∀ (H : Heap) (locs : List Loc), va_P D vwCl (wM ad cI M) H → va_D A (wM ad cI M) → va_S A s.heap H locs → ∀ ls : Array Slot, lv_has ls 6 [(0, .ref (ad 0)), (1, .int x1), (2, .int x2), (3, .int x3), (4, .int x4), (5, .int x5)] → W p l e ({ frames := 3, cells := 0, slots := 0, locals := 71 }) s m args below meth c H locs 0 0 (MQ below (Qp D (some (.long (fL_X4_odds_38 M x1 x2 x3 k x4 x5))) (wM ad cI M) A) args s 0 0 A) (F0 m 38 ls []) := by
  obtain ⟨hx, hb, hret, hml, hts, hown, hlocks, hE, hA⟩ := id B
  have hK := hE.1
  intro k
  induction k with
  | zero =>
    intro x4 x5 h4 h0 hk
    exact absurd hk (Nat.not_lt_zero _)
  | succ k ih =>
    intro x4 x5 h4 h0 hk H locs hP hD hS ls hl
    refine lv_iload hx hb dX4_odds_38 (lv_at hl 5 rfl) ?_
    refine lv_iconst (v := (1 : Int32)) hx hb dX4_odds_40 (by decide) ?_
    refine lv_aload_n hx hb dX4_odds_41 rfl (lv_at hl 0 rfl) ?_
    refine va_get (D := D) (ci := 4) (v := .int (M_people M)) (C := RX4) (T := TX4) (N := 24) hx hb hts iw_X4_odds_4 hown hK hP 0 rfl rfl 5 (by decide) (hts (.fieldLink RX4 56 "TownLispModel" "people" "I") (by decide +kernel)) (fun _ h9 => h9) rfl dX4_odds_42 ?_
    refine lv_ishl hx hb dX4_odds_45 ?_
    refine lv_icmp_ge (tgt := 91) hx hb dX4_odds_46 (by decide) (fun c_46 => ?_) (fun c_46 => ?_)
    · refine lv_iload hx hb dX4_odds_91 (lv_at hl 4 rfl) ?_
      refine lv_i2l (v := x4.toInt64) hx hb dX4_odds_93 rfl ?_
      refine lv_lconst (v := 1) hx hb dX4_odds_94 (by decide) ?_
      refine lv_aload_n hx hb dX4_odds_95 rfl (lv_at hl 0 rfl) ?_
      refine va_get (D := D) (ci := 4) (v := .int (M_people M)) (C := RX4) (T := TX4) (N := 24) hx hb hts iw_X4_odds_4 hown hK hP 0 rfl rfl 5 (by decide) (hts (.fieldLink RX4 56 "TownLispModel" "people" "I") (by decide +kernel)) (fun _ h9 => h9) rfl dX4_odds_96 ?_
      refine lv_lshl (v := ((1 : Int64) <<< ((M_people M).toInt64 &&& 63))) hx hb dX4_odds_99 rfl ?_
      refine lv_iload_n hx hb dX4_odds_100 rfl (lv_at hl 3 rfl) ?_
      refine kc_S (As := [.long x4.toInt64, .long ((1 : Int64) <<< ((M_people M).toInt64 &&& 63)), .int x3]) (rest := []) B (c_X4_inLeastTerms l D cI cO tF x4.toInt64 ((1 : Int64) <<< ((M_people M).toInt64 &&& 63)) x3 (w_nn h4.1) (od_d ⟨Int.le_of_lt (Int.lt_of_le_of_lt hr.1 hr.2), hn⟩)) (va_cwS 3 hts gX4_odds_X4_inLeastTerms rfl rfl rfl (by decide +kernel) ⟨Nat.le_of_ble_eq_true rfl, Nat.le_of_ble_eq_true rfl⟩) hP hD hS [] rfl (by decide) (w' := wM ad cI M) rfl rfl rfl hl.1 rfl (Nat.le_of_ble_eq_true rfl) dX4_odds_101 ⟨Nat.zero_le _, Nat.zero_le _⟩ (fun H locs hP hD hS => ?_)
      have hD : va_D A (wM ad cI M) := hD
      have hF : fL_X4_odds_38 M x1 x2 x3 (k + 1) x4 x5 = (f_X4_inLeastTerms x4.toInt64 ((1 : Int64) <<< ((M_people M).toInt64 &&& 63)) x3) := by rw [fL_X4_odds_38, if_pos c_46]
      rw [hF]
      exact kr_l B hP hS rfl rfl dX4_odds_104
    · refine lv_iload hx hb dX4_odds_49 (lv_at hl 4 rfl) ?_
      refine lv_iload hx hb dX4_odds_51 (lv_at hl 5 rfl) ?_
      refine lv_iload_n hx hb dX4_odds_53 rfl (lv_at hl 1 rfl) ?_
      refine kc_S (As := [.int x5, .int x1]) (rest := [.int x4]) B (c_X4_isOf l D cI cO tF x5 x1 ) (va_cwS 2 hts gX4_odds_X4_isOf rfl rfl rfl (by decide +kernel) ⟨Nat.le_of_ble_eq_true rfl, Nat.le_of_ble_eq_true rfl⟩) hP hD hS [] rfl (by decide) (w' := wM ad cI M) rfl rfl rfl hl.1 rfl (Nat.le_of_ble_eq_true rfl) dX4_odds_54 ⟨Nat.zero_le _, Nat.zero_le _⟩ (fun H locs hP hD hS => ?_)
      have hD : va_D A (wM ad cI M) := hD
      refine lv_if_eq (tgt := 81) hx hb dX4_odds_57 (by decide) (fun c_57 => ?_) (fun c_57 => ?_)
      · refine lv_iconst (v := (0 : Int32)) hx hb dX4_odds_81 (by decide) ?_
        refine lv_iadd hx hb dX4_odds_82 ?_
        refine lv_istore (lv' := [(4, .int (x4 + (0 : Int32))), (0, .ref (ad 0)), (1, .int x1), (2, .int x2), (3, .int x3), (5, .int x5)]) hx hb dX4_odds_83 hl (by decide) rfl (fun ls hl => ?_)
        refine lv_iinc (v := (x5 + (1 : Int32))) (lv' := [(5, .int (x5 + (1 : Int32))), (4, .int (x4 + (0 : Int32))), (0, .ref (ad 0)), (1, .int x1), (2, .int x2), (3, .int x3)]) hx hb dX4_odds_85 hl (k := 5) rfl rfl (by decide) rfl (fun ls hl => ?_)
        refine lv_goto (tgt := 38) hx hb dX4_odds_88 (by decide) ?_
        have hF : fL_X4_odds_38 M x1 x2 x3 (k + 1) x4 x5 = fL_X4_odds_38 M x1 x2 x3 k (x4 + (0 : Int32)) (x5 + (1 : Int32)) := by rw [fL_X4_odds_38, if_neg c_46, if_pos c_57]
        rw [hF]
        exact ih (x4 + (0 : Int32)) (x5 + (1 : Int32)) (od_0 h4 c_46) (lp_pre h0 c_46) (lp_mu h0 c_46 hk) _ _ hP hD hS ls (lv_sub hl [2, 3, 4, 5, 1, 0] rfl)
      · refine lv_aload_n hx hb dX4_odds_60 rfl (lv_at hl 0 rfl) ?_
        refine lv_iload_n hx hb dX4_odds_61 rfl (lv_at hl 1 rfl) ?_
        refine lv_aload_n hx hb dX4_odds_62 rfl (lv_at hl 0 rfl) ?_
        refine lv_iload hx hb dX4_odds_63 (lv_at hl 5 rfl) ?_
        refine lv_iconst (v := (0 : Int32)) hx hb dX4_odds_65 (by decide) ?_
        refine lv_iload_n hx hb dX4_odds_66 rfl (lv_at hl 1 rfl) ?_
        refine kc_V (As := [.int x5, .int (0 : Int32), .int x1]) (rest := [.int x1, .ref (ad 0), .int x4]) B (c_X4_shareOf l D cI cO tF ad M x5 (0 : Int32) x1 (hn) (mem_sz hn hr h0 c_46 c_57) (q_n0 hr) (hr)) (cwV 3 hts gX4_odds_X4_shareOf rfl rfl rfl (by decide +kernel) ⟨Nat.le_of_ble_eq_true rfl, Nat.le_of_ble_eq_true rfl⟩) hP hD hS [0, 1, 2, 3, 4, 5, 6, 7, 8, 9, 10, 11, 12] wM_subA (by decide) (w' := wM ad cI M) (wM_setA _) (wM_fst _) 0 4 rfl rfl rfl rfl hl.1 rfl (Nat.le_of_ble_eq_true rfl) dX4_odds_67 ⟨Nat.zero_le _, Nat.zero_le _⟩ (fun H locs hP hD hS => ?_)
        have hD : va_D A (wM ad cI M) := hD
        refine kc_V (As := [.int x1, .int (f_X4_shareOf M x5 (0 : Int32) x1)]) (rest := [.int x4]) B (c_X4_saysBy l D cI cO tF ad M x1 (f_X4_shareOf M x5 (0 : Int32) x1) (q_in hn hr) (ht0)) (cwV 2 hts gX4_odds_X4_saysBy rfl rfl rfl (by decide +kernel) ⟨Nat.le_of_ble_eq_true rfl, Nat.le_of_ble_eq_true rfl⟩) hP hD hS [0, 1, 2, 3, 4, 5, 6, 7, 8, 9, 10, 11, 12] wM_subA (by decide) (w' := wM ad cI M) (wM_setA _) (wM_fst _) 0 4 rfl rfl rfl rfl hl.1 rfl (Nat.le_of_ble_eq_true rfl) dX4_odds_70 ⟨Nat.zero_le _, Nat.zero_le _⟩ (fun H locs hP hD hS => ?_)
        have hD : va_D A (wM ad cI M) := hD
        refine lv_iload_n hx hb dX4_odds_73 rfl (lv_at hl 2 rfl) ?_
        refine lv_icmp_lt (tgt := 81) hx hb dX4_odds_74 (by decide) (fun c_74 => ?_) (fun c_74 => ?_)
        · refine lv_iconst (v := (0 : Int32)) hx hb dX4_odds_81 (by decide) ?_
          refine lv_iadd hx hb dX4_odds_82 ?_
          refine lv_istore (lv' := [(4, .int (x4 + (0 : Int32))), (0, .ref (ad 0)), (1, .int x1), (2, .int x2), (3, .int x3), (5, .int x5)]) hx hb dX4_odds_83 hl (by decide) rfl (fun ls hl => ?_)
          refine lv_iinc (v := (x5 + (1 : Int32))) (lv' := [(5, .int (x5 + (1 : Int32))), (4, .int (x4 + (0 : Int32))), (0, .ref (ad 0)), (1, .int x1), (2, .int x2), (3, .int x3)]) hx hb dX4_odds_85 hl (k := 5) rfl rfl (by decide) rfl (fun ls hl => ?_)
          refine lv_goto (tgt := 38) hx hb dX4_odds_88 (by decide) ?_
          have hF : fL_X4_odds_38 M x1 x2 x3 (k + 1) x4 x5 = fL_X4_odds_38 M x1 x2 x3 k (x4 + (0 : Int32)) (x5 + (1 : Int32)) := by rw [fL_X4_odds_38, if_neg c_46, if_neg c_57, if_pos c_74]
          rw [hF]
          exact ih (x4 + (0 : Int32)) (x5 + (1 : Int32)) (od_0 h4 c_46) (lp_pre h0 c_46) (lp_mu h0 c_46 hk) _ _ hP hD hS ls (lv_sub hl [2, 3, 4, 5, 1, 0] rfl)
        · refine lv_iconst (v := (1 : Int32)) hx hb dX4_odds_77 (by decide) ?_
          refine lv_goto (tgt := 82) hx hb dX4_odds_78 (by decide) ?_
          refine lv_iadd hx hb dX4_odds_82 ?_
          refine lv_istore (lv' := [(4, .int (x4 + (1 : Int32))), (0, .ref (ad 0)), (1, .int x1), (2, .int x2), (3, .int x3), (5, .int x5)]) hx hb dX4_odds_83 hl (by decide) rfl (fun ls hl => ?_)
          refine lv_iinc (v := (x5 + (1 : Int32))) (lv' := [(5, .int (x5 + (1 : Int32))), (4, .int (x4 + (1 : Int32))), (0, .ref (ad 0)), (1, .int x1), (2, .int x2), (3, .int x3)]) hx hb dX4_odds_85 hl (k := 5) rfl rfl (by decide) rfl (fun ls hl => ?_)
          refine lv_goto (tgt := 38) hx hb dX4_odds_88 (by decide) ?_
          have hF : fL_X4_odds_38 M x1 x2 x3 (k + 1) x4 x5 = fL_X4_odds_38 M x1 x2 x3 k (x4 + (1 : Int32)) (x5 + (1 : Int32)) := by rw [fL_X4_odds_38, if_neg c_46, if_neg c_57, if_neg c_74]
          rw [hF]
          exact ih (x4 + (1 : Int32)) (x5 + (1 : Int32)) (od_1 h4 c_46) (lp_pre h0 c_46) (lp_mu h0 c_46 hk) _ _ hP hD hS ls (lv_sub hl [2, 3, 4, 5, 1, 0] rfl)
set_option maxHeartbeats 4000000 in
set_option maxRecDepth 100000 in
theorem c_X4_odds (l : Launch) (D : va_G) (cI cO : ClassId) (tF : Nat) (ad : Nat → Nat) (M : MS) (x1 : Int32) (x2 : Int32) (x3 : Int32) (hn : (M_people M).toInt ≤ 6) (ht : ∀ i : Nat, (i : Int) < (M_people M).toInt → ¬ M_thick M i = 0) : Ct l yX4_odds wsX4_odds ({ frames := 3, cells := 0, slots := 0, locals := 71 }) D cI cO tF [.ref (ad 0), .int x1, .int x2, .int x3] (wM ad cI M) (some (.long (f_X4_odds M x1 x2 x3))) (wM ad cI M) := by
  refine Ct.of (cc := cX4_odds) (maxL := 6) (ret := (some .long)) (own := RX4) (by decide) rfl rfl (Nat.le_of_ble_eq_true rfl) ?_
  intro p e s m args below meth c A ls B hP hD hS hl
  obtain ⟨hx, hb, hret, hml, hts, hown, hlocks, hE, hA⟩ := id B
  have hK := hE.1
  have hl : lv_has ls 6 [(0, .ref (ad 0)), (1, .int x1), (2, .int x2), (3, .int x3)] := hl
  refine lv_aload_n hx hb dX4_odds_0 rfl (lv_at hl 0 rfl) ?_
  refine lv_iload_n hx hb dX4_odds_1 rfl (lv_at hl 1 rfl) ?_
  refine kc_V (As := [.int x1]) (rest := []) B (c_X4_isPerson l D cI cO tF ad M x1 ) (cwV 1 hts gX4_odds_X4_isPerson rfl rfl rfl (by decide +kernel) ⟨Nat.le_of_ble_eq_true rfl, Nat.le_of_ble_eq_true rfl⟩) hP hD hS [0, 1, 2, 3, 4, 5, 6, 7, 8, 9, 10, 11, 12] wM_subA (by decide) (w' := wM ad cI M) (wM_setA _) (wM_fst _) 0 4 rfl rfl rfl rfl hl.1 rfl (Nat.le_of_ble_eq_true rfl) dX4_odds_2 ⟨Nat.zero_le _, Nat.zero_le _⟩ (fun H locs hP hD hS => ?_)
  have hD : va_D A (wM ad cI M) := hD
  refine lv_if_eq (tgt := 28) hx hb dX4_odds_5 (by decide) (fun c_5 => ?_) (fun c_5 => ?_)
  · refine lv_ldc2 hx hb hown (hts (.constantLong RX4 50 (-9223372036854775808 : Int64)) (by decide +kernel)) dX4_odds_28 ?_
    have hF : f_X4_odds M x1 x2 x3 = (-9223372036854775808 : Int64) := by rw [f_X4_odds, if_pos c_5]
    rw [hF]
    exact kr_l B hP hS rfl rfl dX4_odds_31
  · refine lv_iload_n hx hb dX4_odds_8 rfl (lv_at hl 2 rfl) ?_
    refine lv_iconst (v := (0 : Int32)) hx hb dX4_odds_9 (by decide) ?_
    refine lv_sipush (v := (600 : Int32)) hx hb dX4_odds_10 (by decide) ?_
    refine kc_S (As := [.int x2, .int (0 : Int32), .int (600 : Int32)]) (rest := []) B (c_X4_within l D cI cO tF x2 (0 : Int32) (600 : Int32) ) (va_cwS 3 hts gX4_odds_X4_within rfl rfl rfl (by decide +kernel) ⟨Nat.le_of_ble_eq_true rfl, Nat.le_of_ble_eq_true rfl⟩) hP hD hS [] rfl (by decide) (w' := wM ad cI M) rfl rfl rfl hl.1 rfl (Nat.le_of_ble_eq_true rfl) dX4_odds_13 ⟨Nat.zero_le _, Nat.zero_le _⟩ (fun H locs hP hD hS => ?_)
    have hD : va_D A (wM ad cI M) := hD
    refine lv_if_eq (tgt := 28) hx hb dX4_odds_16 (by decide) (fun c_16 => ?_) (fun c_16 => ?_)
    · refine lv_ldc2 hx hb hown (hts (.constantLong RX4 50 (-9223372036854775808 : Int64)) (by decide +kernel)) dX4_odds_28 ?_
      have hF : f_X4_odds M x1 x2 x3 = (-9223372036854775808 : Int64) := by rw [f_X4_odds, if_neg c_5, if_pos c_16]
      rw [hF]
      exact kr_l B hP hS rfl rfl dX4_odds_31
    · refine lv_iload_n hx hb dX4_odds_19 rfl (lv_at hl 3 rfl) ?_
      refine lv_iconst (v := (0 : Int32)) hx hb dX4_odds_20 (by decide) ?_
      refine lv_iconst (v := (1 : Int32)) hx hb dX4_odds_21 (by decide) ?_
      refine kc_S (As := [.int x3, .int (0 : Int32), .int (1 : Int32)]) (rest := []) B (c_X4_within l D cI cO tF x3 (0 : Int32) (1 : Int32) ) (va_cwS 3 hts gX4_odds_X4_within rfl rfl rfl (by decide +kernel) ⟨Nat.le_of_ble_eq_true rfl, Nat.le_of_ble_eq_true rfl⟩) hP hD hS [] rfl (by decide) (w' := wM ad cI M) rfl rfl rfl hl.1 rfl (Nat.le_of_ble_eq_true rfl) dX4_odds_22 ⟨Nat.zero_le _, Nat.zero_le _⟩ (fun H locs hP hD hS => ?_)
      have hD : va_D A (wM ad cI M) := hD
      refine lv_if_ne (tgt := 32) hx hb dX4_odds_25 (by decide) (fun c_25 => ?_) (fun c_25 => ?_)
      · refine lv_iconst (v := (0 : Int32)) hx hb dX4_odds_32 (by decide) ?_
        refine lv_istore (lv' := [(4, .int (0 : Int32)), (0, .ref (ad 0)), (1, .int x1), (2, .int x2), (3, .int x3)]) hx hb dX4_odds_33 hl (by decide) rfl (fun ls hl => ?_)
        refine lv_iconst (v := (0 : Int32)) hx hb dX4_odds_35 (by decide) ?_
        refine lv_istore (lv' := [(5, .int (0 : Int32)), (4, .int (0 : Int32)), (0, .ref (ad 0)), (1, .int x1), (2, .int x2), (3, .int x3)]) hx hb dX4_odds_36 hl (by decide) rfl (fun ls hl => ?_)
        have hF : f_X4_odds M x1 x2 x3 = fL_X4_odds_38 M x1 x2 x3 (((1 : Int32) <<< ((M_people M) &&& 31)).toInt.toNat + 1) (0 : Int32) (0 : Int32) := by rw [f_X4_odds, if_neg c_5, if_neg c_16, if_neg c_25]
        rw [hF]
        exact L_X4_odds_38 l D cI cO tF ad M x1 x2 x3 hn ht B (mi_r c_5) (ht _ (q_cl (mi_r c_5))) (((1 : Int32) <<< ((M_people M) &&& 31)).toInt.toNat + 1) (0 : Int32) (0 : Int32) (⟨by decide, by decide⟩) (Int.le_refl _) (by rw [show (0 : Int32).toInt = 0 from rfl]; omega) _ _ hP hD hS ls (lv_sub hl [2, 3, 4, 5, 1, 0] rfl)
      · refine lv_ldc2 hx hb hown (hts (.constantLong RX4 50 (-9223372036854775808 : Int64)) (by decide +kernel)) dX4_odds_28 ?_
        have hF : f_X4_odds M x1 x2 x3 = (-9223372036854775808 : Int64) := by rw [f_X4_odds, if_neg c_5, if_neg c_16, if_pos c_25]
        rw [hF]
        exact kr_l B hP hS rfl rfl dX4_odds_31
def fL_X4_worth_68 (M : MS) (x1 : Int32) (x2 : Int32) (x3 : Int32) (x4 : Int32) (x5 : Int32) : Nat → Int64 → Int32 → Int64
  | 0, _, _ => 0
  | k + 1, x6, x8 => (if ((1 : Int32) <<< ((M_people M) &&& 31)) ≤ x8 then (f_X4_inLeastTerms x6 (f_X4_factorial x5) x2) else (if (x8 &&& (x4 ^^^ (-1 : Int32))) = 0 then (if x3 < ((2 : Int32) * (f_X4_partsOf M x8)) then fL_X4_worth_68 M x1 x2 x3 x4 x5 k x6 (x8 + (1 : Int32)) else (if ((2 : Int32) * ((f_X4_partsOf M x8) + ((M_parts M) x1.toNatClampNeg))) ≤ x3 then fL_X4_worth_68 M x1 x2 x3 x4 x5 k x6 (x8 + (1 : Int32)) else fL_X4_worth_68 M x1 x2 x3 x4 x5 k (x6 + ((f_X4_factorial (f_X4_size x8)) * (f_X4_factorial ((x5 - (1 : Int32)) - (f_X4_size x8))))) (x8 + (1 : Int32)))) else fL_X4_worth_68 M x1 x2 x3 x4 x5 k x6 (x8 + (1 : Int32))))
def f_X4_worth (M : MS) (x1 : Int32) (x2 : Int32) : Int64 := (if (f_X4_isPerson M x1) = 0 then (-9223372036854775808 : Int64) else (if (f_X4_within x2 (0 : Int32) (1 : Int32)) = 0 then (-9223372036854775808 : Int64) else (if (f_X4_isOf (M_isIn M) x1) = 0 then (-9223372036854775808 : Int64) else fL_X4_worth_68 M x1 x2 (f_X4_partsOf M (M_isIn M)) ((M_isIn M) &&& (((1 : Int32) <<< (x1 &&& 31)) ^^^ (-1 : Int32))) (f_X4_size (M_isIn M)) (((1 : Int32) <<< ((M_people M) &&& 31)).toInt.toNat + 1) (0 : Int64) (0 : Int32))))
theorem iw_X4_worth_4 : ∀ w ∈ wsX40, w ∈ wsX4_worth := fun _ h => List.mem_cons_of_mem _ (List.mem_append_right _ h)
set_option maxHeartbeats 4000000 in
set_option maxRecDepth 100000 in
theorem L_X4_worth_68 {p : Program} (l : Launch) {e : Env} {s : State} {m : MethodId} {args : Array Value} {below : List Frame} {meth : Method} {c : Code} {A : Nat → Prop} (D : va_G) (cI cO : ClassId) (tF : Nat) (ad : Nat → Nat) (M : MS) (x1 : Int32) (x2 : Int32) (x3 : Int32) (x4 : Int32) (x5 : Int32) (hn : (M_people M).toInt ≤ 6) (hso : so (M_isIn M) (M_people M)) (B : Bx p s m args meth c cX4_worth 10 (some .long) wsX4_worth RX4 D cI cO tF A) (hr : 0 ≤ x1.toInt ∧ x1.toInt < (M_people M).toInt) (h5 : 0 ≤ x5.toInt ∧ x5.toInt ≤ 6) : ∀ (k : Nat) (x6 : Int64) (x8 : Int32), (0 ≤ x6.toInt ∧ x6.toInt ≤ x8.toInt * 518400) → (0 ≤ x8.toInt) → ((((1 : Int32) <<< ((M_people M) &&& 31)).toInt - x8.toInt).toNat < k) → ∀ (H : Heap) (locs : List Loc), va_P D vwCl (wM ad cI M) H → va_D A (wM ad cI M) → va_S A s.heap H locs → ∀ ls : Array Slot, lv_has ls 10 [(0, .ref (ad 0)), (1, .int x1), (2, .int x2), (3, .int x3), (4, .int x4), (5, .int x5), (6, .long x6), (8, .int x8)] → W p l e ({ frames := 2, cells := 0, slots := 0, locals := 44 }) s m args below meth c H locs 0 0 (MQ below (Qp D (some (.long (fL_X4_worth_68 M x1 x2 x3 x4 x5 k x6 x8))) (wM ad cI M) A) args s 0 0 A) (F0 m 68 ls []) := by
  obtain ⟨hx, hb, hret, hml, hts, hown, hlocks, hE, hA⟩ := id B
  have hK := hE.1
  intro k
  induction k with
  | zero =>
    intro x6 x8 h6 h0 hk
    exact absurd hk (Nat.not_lt_zero _)
  | succ k ih =>
    intro x6 x8 h6 h0 hk H locs hP hD hS ls hl
    refine lv_iload hx hb dX4_worth_68 (lv_at hl 7 rfl) ?_
    refine lv_iconst (v := (1 : Int32)) hx hb dX4_worth_70 (by decide) ?_
    refine lv_aload_n hx hb dX4_worth_71 rfl (lv_at hl 0 rfl) ?_
    refine va_get (D := D) (ci := 4) (v := .int (M_people M)) (C := RX4) (T := TX4) (N := 24) hx hb hts iw_X4_worth_4 hown hK hP 0 rfl rfl 5 (by decide) (hts (.fieldLink RX4 56 "TownLispModel" "people" "I") (by decide +kernel)) (fun _ h9 => h9) rfl dX4_worth_72 ?_
    refine lv_ishl hx hb dX4_worth_75 ?_
    refine lv_icmp_ge (tgt := 153) hx hb dX4_worth_76 (by decide) (fun c_76 => ?_) (fun c_76 => ?_)
    · refine lv_lload hx hb dX4_worth_153 (lv_at hl 6 rfl) ?_
      refine lv_iload hx hb dX4_worth_155 (lv_at hl 5 rfl) ?_
      refine kc_S (As := [.int x5]) (rest := [.long x6]) B (c_X4_factorial l D cI cO tF x5 (by omega)) (va_cwS 1 hts gX4_worth_X4_factorial rfl rfl rfl (by decide +kernel) ⟨Nat.le_of_ble_eq_true rfl, Nat.le_of_ble_eq_true rfl⟩) hP hD hS [] rfl (by decide) (w' := wM ad cI M) rfl rfl rfl hl.1 rfl (Nat.le_of_ble_eq_true rfl) dX4_worth_157 ⟨Nat.zero_le _, Nat.zero_le _⟩ (fun H locs hP hD hS => ?_)
      have hD : va_D A (wM ad cI M) := hD
      refine lv_iload_n hx hb dX4_worth_160 rfl (lv_at hl 2 rfl) ?_
      refine kc_S (As := [.long x6, .long (f_X4_factorial x5), .int x2]) (rest := []) B (c_X4_inLeastTerms l D cI cO tF x6 (f_X4_factorial x5) x2 (h6.1) (by have h9 := fac1 h5; omega)) (va_cwS 3 hts gX4_worth_X4_inLeastTerms rfl rfl rfl (by decide +kernel) ⟨Nat.le_of_ble_eq_true rfl, Nat.le_of_ble_eq_true rfl⟩) hP hD hS [] rfl (by decide) (w' := wM ad cI M) rfl rfl rfl hl.1 rfl (Nat.le_of_ble_eq_true rfl) dX4_worth_161 ⟨Nat.zero_le _, Nat.zero_le _⟩ (fun H locs hP hD hS => ?_)
      have hD : va_D A (wM ad cI M) := hD
      have hF : fL_X4_worth_68 M x1 x2 x3 x4 x5 (k + 1) x6 x8 = (f_X4_inLeastTerms x6 (f_X4_factorial x5) x2) := by rw [fL_X4_worth_68, if_pos c_76]
      rw [hF]
      exact kr_l B hP hS rfl rfl dX4_worth_164
    · refine lv_aload_n hx hb dX4_worth_79 rfl (lv_at hl 0 rfl) ?_
      refine lv_iload hx hb dX4_worth_80 (lv_at hl 7 rfl) ?_
      refine kc_V (As := [.int x8]) (rest := []) B (c_X4_partsOf l D cI cO tF ad M x8 (hn)) (cwV 1 hts gX4_worth_X4_partsOf rfl rfl rfl (by decide +kernel) ⟨Nat.le_of_ble_eq_true rfl, Nat.le_of_ble_eq_true rfl⟩) hP hD hS [0, 1, 2, 3, 4, 5, 6, 7, 8, 9, 10, 11, 12] wM_subA (by decide) (w' := wM ad cI M) (wM_setA _) (wM_fst _) 0 4 rfl rfl rfl rfl hl.1 rfl (Nat.le_of_ble_eq_true rfl) dX4_worth_82 ⟨Nat.zero_le _, Nat.zero_le _⟩ (fun H locs hP hD hS => ?_)
      have hD : va_D A (wM ad cI M) := hD
      refine lv_istore (lv' := [(9, .int (f_X4_partsOf M x8)), (0, .ref (ad 0)), (1, .int x1), (2, .int x2), (3, .int x3), (4, .int x4), (5, .int x5), (6, .long x6), (8, .int x8)]) hx hb dX4_worth_85 hl (by decide) rfl (fun ls hl => ?_)
      refine lv_iload hx hb dX4_worth_87 (lv_at hl 8 rfl) ?_
      refine lv_iload hx hb dX4_worth_89 (lv_at hl 5 rfl) ?_
      refine lv_iconst (v := (-1 : Int32)) hx hb dX4_worth_91 (by decide) ?_
      refine lv_ixor hx hb dX4_worth_92 ?_
      refine lv_iand hx hb dX4_worth_93 ?_
      refine lv_if_ne (tgt := 147) hx hb dX4_worth_94 (by decide) (fun c_94 => ?_) (fun c_94 => ?_)
      · refine lv_iinc (v := (x8 + (1 : Int32))) (lv' := [(8, .int (x8 + (1 : Int32))), (9, .int (f_X4_partsOf M x8)), (0, .ref (ad 0)), (1, .int x1), (2, .int x2), (3, .int x3), (4, .int x4), (5, .int x5), (6, .long x6)]) hx hb dX4_worth_147 hl (k := 8) rfl rfl (by decide) rfl (fun ls hl => ?_)
        refine lv_goto (tgt := 68) hx hb dX4_worth_150 (by decide) ?_
        have hF : fL_X4_worth_68 M x1 x2 x3 x4 x5 (k + 1) x6 x8 = fL_X4_worth_68 M x1 x2 x3 x4 x5 k x6 (x8 + (1 : Int32)) := by rw [fL_X4_worth_68, if_neg c_76, if_neg c_94]
        rw [hF]
        exact ih x6 (x8 + (1 : Int32)) (wo_0 h6 c_76) (lp_pre h0 c_76) (lp_mu h0 c_76 hk) _ _ hP hD hS ls (lv_sub hl [2, 3, 4, 5, 6, 7, 8, 0] rfl)
      · refine lv_iconst (v := (2 : Int32)) hx hb dX4_worth_97 (by decide) ?_
        refine lv_iload hx hb dX4_worth_98 (lv_at hl 0 rfl) ?_
        refine lv_imul hx hb dX4_worth_100 ?_
        refine lv_iload_n hx hb dX4_worth_101 rfl (lv_at hl 4 rfl) ?_
        refine lv_icmp_gt (tgt := 147) hx hb dX4_worth_102 (by decide) (fun c_102 => ?_) (fun c_102 => ?_)
        · refine lv_iinc (v := (x8 + (1 : Int32))) (lv' := [(8, .int (x8 + (1 : Int32))), (9, .int (f_X4_partsOf M x8)), (0, .ref (ad 0)), (1, .int x1), (2, .int x2), (3, .int x3), (4, .int x4), (5, .int x5), (6, .long x6)]) hx hb dX4_worth_147 hl (k := 8) rfl rfl (by decide) rfl (fun ls hl => ?_)
          refine lv_goto (tgt := 68) hx hb dX4_worth_150 (by decide) ?_
          have hF : fL_X4_worth_68 M x1 x2 x3 x4 x5 (k + 1) x6 x8 = fL_X4_worth_68 M x1 x2 x3 x4 x5 k x6 (x8 + (1 : Int32)) := by rw [fL_X4_worth_68, if_neg c_76, if_pos c_94, if_pos c_102]
          rw [hF]
          exact ih x6 (x8 + (1 : Int32)) (wo_0 h6 c_76) (lp_pre h0 c_76) (lp_mu h0 c_76 hk) _ _ hP hD hS ls (lv_sub hl [2, 3, 4, 5, 6, 7, 8, 0] rfl)
        · refine lv_iconst (v := (2 : Int32)) hx hb dX4_worth_105 (by decide) ?_
          refine lv_iload hx hb dX4_worth_106 (lv_at hl 0 rfl) ?_
          refine lv_aload_n hx hb dX4_worth_108 rfl (lv_at hl 1 rfl) ?_
          refine va_get (D := D) (ci := 4) (v := .ref (ad 5)) (C := RX4) (T := TX4) (N := 24) hx hb hts iw_X4_worth_4 hown hK hP 0 rfl rfl 10 (by decide) (hts (.fieldLink RX4 22 "TownLispModel" "parts" "[I") (by decide +kernel)) (fun _ h9 => h9) rfl dX4_worth_109 ?_
          refine lv_iload_n hx hb dX4_worth_112 rfl (lv_at hl 2 rfl) ?_
          refine va_iald hx hb hK hP 5 0 rfl rfl (q_in hn hr) dX4_worth_113 ?_
          refine lv_iadd hx hb dX4_worth_114 ?_
          refine lv_imul hx hb dX4_worth_115 ?_
          refine lv_iload_n hx hb dX4_worth_116 rfl (lv_at hl 4 rfl) ?_
          refine lv_icmp_le (tgt := 147) hx hb dX4_worth_117 (by decide) (fun c_117 => ?_) (fun c_117 => ?_)
          · refine lv_iinc (v := (x8 + (1 : Int32))) (lv' := [(8, .int (x8 + (1 : Int32))), (9, .int (f_X4_partsOf M x8)), (0, .ref (ad 0)), (1, .int x1), (2, .int x2), (3, .int x3), (4, .int x4), (5, .int x5), (6, .long x6)]) hx hb dX4_worth_147 hl (k := 8) rfl rfl (by decide) rfl (fun ls hl => ?_)
            refine lv_goto (tgt := 68) hx hb dX4_worth_150 (by decide) ?_
            have hF : fL_X4_worth_68 M x1 x2 x3 x4 x5 (k + 1) x6 x8 = fL_X4_worth_68 M x1 x2 x3 x4 x5 k x6 (x8 + (1 : Int32)) := by rw [fL_X4_worth_68, if_neg c_76, if_pos c_94, if_neg c_102, if_pos c_117]
            rw [hF]
            exact ih x6 (x8 + (1 : Int32)) (wo_0 h6 c_76) (lp_pre h0 c_76) (lp_mu h0 c_76 hk) _ _ hP hD hS ls (lv_sub hl [2, 3, 4, 5, 6, 7, 8, 0] rfl)
          · refine lv_lload hx hb dX4_worth_120 (lv_at hl 7 rfl) ?_
            refine lv_iload hx hb dX4_worth_122 (lv_at hl 8 rfl) ?_
            refine kc_S (As := [.int x8]) (rest := [.long x6]) B (c_X4_size l D cI cO tF x8 ) (va_cwS 1 hts gX4_worth_X4_size rfl rfl rfl (by decide +kernel) ⟨Nat.le_of_ble_eq_true rfl, Nat.le_of_ble_eq_true rfl⟩) hP hD hS [] rfl (by decide) (w' := wM ad cI M) rfl rfl rfl hl.1 rfl (Nat.le_of_ble_eq_true rfl) dX4_worth_124 ⟨Nat.zero_le _, Nat.zero_le _⟩ (fun H locs hP hD hS => ?_)
            have hD : va_D A (wM ad cI M) := hD
            refine kc_S (As := [.int (f_X4_size x8)]) (rest := [.long x6]) B (c_X4_factorial l D cI cO tF (f_X4_size x8) (by have h9 := (so_sz6 (bnd_so ⟨Int.le_of_lt (Int.lt_of_le_of_lt hr.1 hr.2), hn⟩ h0 c_76)); omega)) (va_cwS 1 hts gX4_worth_X4_factorial rfl rfl rfl (by decide +kernel) ⟨Nat.le_of_ble_eq_true rfl, Nat.le_of_ble_eq_true rfl⟩) hP hD hS [] rfl (by decide) (w' := wM ad cI M) rfl rfl rfl hl.1 rfl (Nat.le_of_ble_eq_true rfl) dX4_worth_127 ⟨Nat.zero_le _, Nat.zero_le _⟩ (fun H locs hP hD hS => ?_)
            have hD : va_D A (wM ad cI M) := hD
            refine lv_iload hx hb dX4_worth_130 (lv_at hl 6 rfl) ?_
            refine lv_iconst (v := (1 : Int32)) hx hb dX4_worth_132 (by decide) ?_
            refine lv_isub hx hb dX4_worth_133 ?_
            refine lv_iload hx hb dX4_worth_134 (lv_at hl 8 rfl) ?_
            refine kc_S (As := [.int x8]) (rest := [.int (x5 - (1 : Int32)), .long (f_X4_factorial (f_X4_size x8)), .long x6]) B (c_X4_size l D cI cO tF x8 ) (va_cwS 1 hts gX4_worth_X4_size rfl rfl rfl (by decide +kernel) ⟨Nat.le_of_ble_eq_true rfl, Nat.le_of_ble_eq_true rfl⟩) hP hD hS [] rfl (by decide) (w' := wM ad cI M) rfl rfl rfl hl.1 rfl (Nat.le_of_ble_eq_true rfl) dX4_worth_136 ⟨Nat.zero_le _, Nat.zero_le _⟩ (fun H locs hP hD hS => ?_)
            have hD : va_D A (wM ad cI M) := hD
            refine lv_isub hx hb dX4_worth_139 ?_
            refine kc_S (As := [.int ((x5 - (1 : Int32)) - (f_X4_size x8))]) (rest := [.long (f_X4_factorial (f_X4_size x8)), .long x6]) B (c_X4_factorial l D cI cO tF ((x5 - (1 : Int32)) - (f_X4_size x8)) (fac_h h5 (so_sz6 (bnd_so ⟨Int.le_of_lt (Int.lt_of_le_of_lt hr.1 hr.2), hn⟩ h0 c_76)))) (va_cwS 1 hts gX4_worth_X4_factorial rfl rfl rfl (by decide +kernel) ⟨Nat.le_of_ble_eq_true rfl, Nat.le_of_ble_eq_true rfl⟩) hP hD hS [] rfl (by decide) (w' := wM ad cI M) rfl rfl rfl hl.1 rfl (Nat.le_of_ble_eq_true rfl) dX4_worth_140 ⟨Nat.zero_le _, Nat.zero_le _⟩ (fun H locs hP hD hS => ?_)
            have hD : va_D A (wM ad cI M) := hD
            refine lv_lmul hx hb dX4_worth_143 ?_
            refine lv_ladd hx hb dX4_worth_144 ?_
            refine lv_lstore (lv' := [(6, .long (x6 + ((f_X4_factorial (f_X4_size x8)) * (f_X4_factorial ((x5 - (1 : Int32)) - (f_X4_size x8)))))), (9, .int (f_X4_partsOf M x8)), (0, .ref (ad 0)), (1, .int x1), (2, .int x2), (3, .int x3), (4, .int x4), (5, .int x5), (8, .int x8)]) hx hb dX4_worth_145 hl (by decide) rfl (fun ls hl => ?_)
            refine lv_iinc (v := (x8 + (1 : Int32))) (lv' := [(8, .int (x8 + (1 : Int32))), (6, .long (x6 + ((f_X4_factorial (f_X4_size x8)) * (f_X4_factorial ((x5 - (1 : Int32)) - (f_X4_size x8)))))), (9, .int (f_X4_partsOf M x8)), (0, .ref (ad 0)), (1, .int x1), (2, .int x2), (3, .int x3), (4, .int x4), (5, .int x5)]) hx hb dX4_worth_147 hl (k := 8) rfl rfl (by decide) rfl (fun ls hl => ?_)
            refine lv_goto (tgt := 68) hx hb dX4_worth_150 (by decide) ?_
            have hF : fL_X4_worth_68 M x1 x2 x3 x4 x5 (k + 1) x6 x8 = fL_X4_worth_68 M x1 x2 x3 x4 x5 k (x6 + ((f_X4_factorial (f_X4_size x8)) * (f_X4_factorial ((x5 - (1 : Int32)) - (f_X4_size x8))))) (x8 + (1 : Int32)) := by rw [fL_X4_worth_68, if_neg c_76, if_pos c_94, if_neg c_102, if_neg c_117]
            rw [hF]
            exact ih (x6 + ((f_X4_factorial (f_X4_size x8)) * (f_X4_factorial ((x5 - (1 : Int32)) - (f_X4_size x8))))) (x8 + (1 : Int32)) (wo_1 h6 (s64 ⟨Int.le_of_lt (Int.lt_of_le_of_lt hr.1 hr.2), hn⟩ h0 c_76) h5 (so_sz6 (bnd_so ⟨Int.le_of_lt (Int.lt_of_le_of_lt hr.1 hr.2), hn⟩ h0 c_76)) c_76) (lp_pre h0 c_76) (lp_mu h0 c_76 hk) _ _ hP hD hS ls (lv_sub hl [3, 4, 5, 6, 7, 8, 1, 0] rfl)
set_option maxHeartbeats 4000000 in
set_option maxRecDepth 100000 in
theorem c_X4_worth (l : Launch) (D : va_G) (cI cO : ClassId) (tF : Nat) (ad : Nat → Nat) (M : MS) (x1 : Int32) (x2 : Int32) (hn : (M_people M).toInt ≤ 6) (hso : so (M_isIn M) (M_people M)) : Ct l yX4_worth wsX4_worth ({ frames := 2, cells := 0, slots := 0, locals := 44 }) D cI cO tF [.ref (ad 0), .int x1, .int x2] (wM ad cI M) (some (.long (f_X4_worth M x1 x2))) (wM ad cI M) := by
  refine Ct.of (cc := cX4_worth) (maxL := 10) (ret := (some .long)) (own := RX4) (by decide) rfl rfl (Nat.le_of_ble_eq_true rfl) ?_
  intro p e s m args below meth c A ls B hP hD hS hl
  obtain ⟨hx, hb, hret, hml, hts, hown, hlocks, hE, hA⟩ := id B
  have hK := hE.1
  have hl : lv_has ls 10 [(0, .ref (ad 0)), (1, .int x1), (2, .int x2)] := hl
  refine lv_aload_n hx hb dX4_worth_0 rfl (lv_at hl 0 rfl) ?_
  refine lv_iload_n hx hb dX4_worth_1 rfl (lv_at hl 1 rfl) ?_
  refine kc_V (As := [.int x1]) (rest := []) B (c_X4_isPerson l D cI cO tF ad M x1 ) (cwV 1 hts gX4_worth_X4_isPerson rfl rfl rfl (by decide +kernel) ⟨Nat.le_of_ble_eq_true rfl, Nat.le_of_ble_eq_true rfl⟩) hP hD hS [0, 1, 2, 3, 4, 5, 6, 7, 8, 9, 10, 11, 12] wM_subA (by decide) (w' := wM ad cI M) (wM_setA _) (wM_fst _) 0 4 rfl rfl rfl rfl hl.1 rfl (Nat.le_of_ble_eq_true rfl) dX4_worth_2 ⟨Nat.zero_le _, Nat.zero_le _⟩ (fun H locs hP hD hS => ?_)
  have hD : va_D A (wM ad cI M) := hD
  refine lv_if_eq (tgt := 28) hx hb dX4_worth_5 (by decide) (fun c_5 => ?_) (fun c_5 => ?_)
  · refine lv_ldc2 hx hb hown (hts (.constantLong RX4 50 (-9223372036854775808 : Int64)) (by decide +kernel)) dX4_worth_28 ?_
    have hF : f_X4_worth M x1 x2 = (-9223372036854775808 : Int64) := by rw [f_X4_worth, if_pos c_5]
    rw [hF]
    exact kr_l B hP hS rfl rfl dX4_worth_31
  · refine lv_iload_n hx hb dX4_worth_8 rfl (lv_at hl 2 rfl) ?_
    refine lv_iconst (v := (0 : Int32)) hx hb dX4_worth_9 (by decide) ?_
    refine lv_iconst (v := (1 : Int32)) hx hb dX4_worth_10 (by decide) ?_
    refine kc_S (As := [.int x2, .int (0 : Int32), .int (1 : Int32)]) (rest := []) B (c_X4_within l D cI cO tF x2 (0 : Int32) (1 : Int32) ) (va_cwS 3 hts gX4_worth_X4_within rfl rfl rfl (by decide +kernel) ⟨Nat.le_of_ble_eq_true rfl, Nat.le_of_ble_eq_true rfl⟩) hP hD hS [] rfl (by decide) (w' := wM ad cI M) rfl rfl rfl hl.1 rfl (Nat.le_of_ble_eq_true rfl) dX4_worth_11 ⟨Nat.zero_le _, Nat.zero_le _⟩ (fun H locs hP hD hS => ?_)
    have hD : va_D A (wM ad cI M) := hD
    refine lv_if_eq (tgt := 28) hx hb dX4_worth_14 (by decide) (fun c_14 => ?_) (fun c_14 => ?_)
    · refine lv_ldc2 hx hb hown (hts (.constantLong RX4 50 (-9223372036854775808 : Int64)) (by decide +kernel)) dX4_worth_28 ?_
      have hF : f_X4_worth M x1 x2 = (-9223372036854775808 : Int64) := by rw [f_X4_worth, if_neg c_5, if_pos c_14]
      rw [hF]
      exact kr_l B hP hS rfl rfl dX4_worth_31
    · refine lv_aload_n hx hb dX4_worth_17 rfl (lv_at hl 0 rfl) ?_
      refine va_get (D := D) (ci := 4) (v := .int (M_isIn M)) (C := RX4) (T := TX4) (N := 24) hx hb hts iw_X4_worth_4 hown hK hP 0 rfl rfl 7 (by decide) (hts (.fieldLink RX4 96 "TownLispModel" "isIn" "I") (by decide +kernel)) (fun _ h9 => h9) rfl dX4_worth_18 ?_
      refine lv_iload_n hx hb dX4_worth_21 rfl (lv_at hl 1 rfl) ?_
      refine kc_S (As := [.int (M_isIn M), .int x1]) (rest := []) B (c_X4_isOf l D cI cO tF (M_isIn M) x1 ) (va_cwS 2 hts gX4_worth_X4_isOf rfl rfl rfl (by decide +kernel) ⟨Nat.le_of_ble_eq_true rfl, Nat.le_of_ble_eq_true rfl⟩) hP hD hS [] rfl (by decide) (w' := wM ad cI M) rfl rfl rfl hl.1 rfl (Nat.le_of_ble_eq_true rfl) dX4_worth_22 ⟨Nat.zero_le _, Nat.zero_le _⟩ (fun H locs hP hD hS => ?_)
      have hD : va_D A (wM ad cI M) := hD
      refine lv_if_ne (tgt := 32) hx hb dX4_worth_25 (by decide) (fun c_25 => ?_) (fun c_25 => ?_)
      · refine lv_aload_n hx hb dX4_worth_32 rfl (lv_at hl 0 rfl) ?_
        refine lv_aload_n hx hb dX4_worth_33 rfl (lv_at hl 0 rfl) ?_
        refine va_get (D := D) (ci := 4) (v := .int (M_isIn M)) (C := RX4) (T := TX4) (N := 24) hx hb hts iw_X4_worth_4 hown hK hP 0 rfl rfl 7 (by decide) (hts (.fieldLink RX4 96 "TownLispModel" "isIn" "I") (by decide +kernel)) (fun _ h9 => h9) rfl dX4_worth_34 ?_
        refine kc_V (As := [.int (M_isIn M)]) (rest := []) B (c_X4_partsOf l D cI cO tF ad M (M_isIn M) (hn)) (cwV 1 hts gX4_worth_X4_partsOf rfl rfl rfl (by decide +kernel) ⟨Nat.le_of_ble_eq_true rfl, Nat.le_of_ble_eq_true rfl⟩) hP hD hS [0, 1, 2, 3, 4, 5, 6, 7, 8, 9, 10, 11, 12] wM_subA (by decide) (w' := wM ad cI M) (wM_setA _) (wM_fst _) 0 4 rfl rfl rfl rfl hl.1 rfl (Nat.le_of_ble_eq_true rfl) dX4_worth_37 ⟨Nat.zero_le _, Nat.zero_le _⟩ (fun H locs hP hD hS => ?_)
        have hD : va_D A (wM ad cI M) := hD
        refine lv_istore_n (lv' := [(3, .int (f_X4_partsOf M (M_isIn M))), (0, .ref (ad 0)), (1, .int x1), (2, .int x2)]) hx hb dX4_worth_40 rfl hl (by decide) rfl (fun ls hl => ?_)
        refine lv_aload_n hx hb dX4_worth_41 rfl (lv_at hl 1 rfl) ?_
        refine va_get (D := D) (ci := 4) (v := .int (M_isIn M)) (C := RX4) (T := TX4) (N := 24) hx hb hts iw_X4_worth_4 hown hK hP 0 rfl rfl 7 (by decide) (hts (.fieldLink RX4 96 "TownLispModel" "isIn" "I") (by decide +kernel)) (fun _ h9 => h9) rfl dX4_worth_42 ?_
        refine lv_iconst (v := (1 : Int32)) hx hb dX4_worth_45 (by decide) ?_
        refine lv_iload_n hx hb dX4_worth_46 rfl (lv_at hl 2 rfl) ?_
        refine lv_ishl hx hb dX4_worth_47 ?_
        refine lv_iconst (v := (-1 : Int32)) hx hb dX4_worth_48 (by decide) ?_
        refine lv_ixor hx hb dX4_worth_49 ?_
        refine lv_iand hx hb dX4_worth_50 ?_
        refine lv_istore (lv' := [(4, .int ((M_isIn M) &&& (((1 : Int32) <<< (x1 &&& 31)) ^^^ (-1 : Int32)))), (3, .int (f_X4_partsOf M (M_isIn M))), (0, .ref (ad 0)), (1, .int x1), (2, .int x2)]) hx hb dX4_worth_51 hl (by decide) rfl (fun ls hl => ?_)
        refine lv_aload_n hx hb dX4_worth_53 rfl (lv_at hl 2 rfl) ?_
        refine va_get (D := D) (ci := 4) (v := .int (M_isIn M)) (C := RX4) (T := TX4) (N := 24) hx hb hts iw_X4_worth_4 hown hK hP 0 rfl rfl 7 (by decide) (hts (.fieldLink RX4 96 "TownLispModel" "isIn" "I") (by decide +kernel)) (fun _ h9 => h9) rfl dX4_worth_54 ?_
        refine kc_S (As := [.int (M_isIn M)]) (rest := []) B (c_X4_size l D cI cO tF (M_isIn M) ) (va_cwS 1 hts gX4_worth_X4_size rfl rfl rfl (by decide +kernel) ⟨Nat.le_of_ble_eq_true rfl, Nat.le_of_ble_eq_true rfl⟩) hP hD hS [] rfl (by decide) (w' := wM ad cI M) rfl rfl rfl hl.1 rfl (Nat.le_of_ble_eq_true rfl) dX4_worth_57 ⟨Nat.zero_le _, Nat.zero_le _⟩ (fun H locs hP hD hS => ?_)
        have hD : va_D A (wM ad cI M) := hD
        refine lv_istore (lv' := [(5, .int (f_X4_size (M_isIn M))), (4, .int ((M_isIn M) &&& (((1 : Int32) <<< (x1 &&& 31)) ^^^ (-1 : Int32)))), (3, .int (f_X4_partsOf M (M_isIn M))), (0, .ref (ad 0)), (1, .int x1), (2, .int x2)]) hx hb dX4_worth_60 hl (by decide) rfl (fun ls hl => ?_)
        refine lv_lconst (v := 0) hx hb dX4_worth_62 (by decide) ?_
        refine lv_lstore (lv' := [(6, .long (0 : Int64)), (5, .int (f_X4_size (M_isIn M))), (4, .int ((M_isIn M) &&& (((1 : Int32) <<< (x1 &&& 31)) ^^^ (-1 : Int32)))), (3, .int (f_X4_partsOf M (M_isIn M))), (0, .ref (ad 0)), (1, .int x1), (2, .int x2)]) hx hb dX4_worth_63 hl (by decide) rfl (fun ls hl => ?_)
        refine lv_iconst (v := (0 : Int32)) hx hb dX4_worth_65 (by decide) ?_
        refine lv_istore (lv' := [(8, .int (0 : Int32)), (6, .long (0 : Int64)), (5, .int (f_X4_size (M_isIn M))), (4, .int ((M_isIn M) &&& (((1 : Int32) <<< (x1 &&& 31)) ^^^ (-1 : Int32)))), (3, .int (f_X4_partsOf M (M_isIn M))), (0, .ref (ad 0)), (1, .int x1), (2, .int x2)]) hx hb dX4_worth_66 hl (by decide) rfl (fun ls hl => ?_)
        have hF : f_X4_worth M x1 x2 = fL_X4_worth_68 M x1 x2 (f_X4_partsOf M (M_isIn M)) ((M_isIn M) &&& (((1 : Int32) <<< (x1 &&& 31)) ^^^ (-1 : Int32))) (f_X4_size (M_isIn M)) (((1 : Int32) <<< ((M_people M) &&& 31)).toInt.toNat + 1) (0 : Int64) (0 : Int32) := by rw [f_X4_worth, if_neg c_5, if_neg c_14, if_neg c_25]
        rw [hF]
        exact L_X4_worth_68 l D cI cO tF ad M x1 x2 (f_X4_partsOf M (M_isIn M)) ((M_isIn M) &&& (((1 : Int32) <<< (x1 &&& 31)) ^^^ (-1 : Int32))) (f_X4_size (M_isIn M)) hn hso B (mi_r c_5) (so_sz6 hso) (((1 : Int32) <<< ((M_people M) &&& 31)).toInt.toNat + 1) (0 : Int64) (0 : Int32) (⟨by decide, by decide⟩) (Int.le_refl _) (by rw [show (0 : Int32).toInt = 0 from rfl]; omega) _ _ hP hD hS ls (lv_sub hl [5, 6, 7, 4, 3, 2, 1, 0] rfl)
      · refine lv_ldc2 hx hb hown (hts (.constantLong RX4 50 (-9223372036854775808 : Int64)) (by decide +kernel)) dX4_worth_28 ?_
        have hF : f_X4_worth M x1 x2 = (-9223372036854775808 : Int64) := by rw [f_X4_worth, if_neg c_5, if_neg c_14, if_pos c_25]
        rw [hF]
        exact kr_l B hP hS rfl rfl dX4_worth_31
def f_X4_mean (M : MS) (x1 : Int32) : Int64 := (if (f_X4_within x1 (0 : Int32) (1 : Int32)) = 0 then (-9223372036854775808 : Int64) else (if (M_isIn M) = 0 then (-9223372036854775808 : Int64) else (f_X4_inLeastTerms ((f_X4_partsOf M (M_isIn M)).toInt64) ((f_X4_size (M_isIn M)).toInt64) x1)))
theorem iw_X4_mean_4 : ∀ w ∈ wsX40, w ∈ wsX4_mean := fun _ h => List.mem_cons_of_mem _ (List.mem_append_right _ h)
set_option maxHeartbeats 4000000 in
set_option maxRecDepth 100000 in
theorem c_X4_mean (l : Launch) (D : va_G) (cI cO : ClassId) (tF : Nat) (ad : Nat → Nat) (M : MS) (x1 : Int32) (hn : (M_people M).toInt ≤ 6) (hso : so (M_isIn M) (M_people M)) (hpo : 0 ≤ (f_X4_partsOf M (M_isIn M)).toInt) : Ct l yX4_mean wsX4_mean ({ frames := 2, cells := 0, slots := 0, locals := 44 }) D cI cO tF [.ref (ad 0), .int x1] (wM ad cI M) (some (.long (f_X4_mean M x1))) (wM ad cI M) := by
  refine Ct.of (cc := cX4_mean) (maxL := 2) (ret := (some .long)) (own := RX4) (by decide) rfl rfl (Nat.le_of_ble_eq_true rfl) ?_
  intro p e s m args below meth c A ls B hP hD hS hl
  obtain ⟨hx, hb, hret, hml, hts, hown, hlocks, hE, hA⟩ := id B
  have hK := hE.1
  have hl : lv_has ls 2 [(0, .ref (ad 0)), (1, .int x1)] := hl
  refine lv_iload_n hx hb dX4_mean_0 rfl (lv_at hl 1 rfl) ?_
  refine lv_iconst (v := (0 : Int32)) hx hb dX4_mean_1 (by decide) ?_
  refine lv_iconst (v := (1 : Int32)) hx hb dX4_mean_2 (by decide) ?_
  refine kc_S (As := [.int x1, .int (0 : Int32), .int (1 : Int32)]) (rest := []) B (c_X4_within l D cI cO tF x1 (0 : Int32) (1 : Int32) ) (va_cwS 3 hts gX4_mean_X4_within rfl rfl rfl (by decide +kernel) ⟨Nat.le_of_ble_eq_true rfl, Nat.le_of_ble_eq_true rfl⟩) hP hD hS [] rfl (by decide) (w' := wM ad cI M) rfl rfl rfl hl.1 rfl (Nat.le_of_ble_eq_true rfl) dX4_mean_3 ⟨Nat.zero_le _, Nat.zero_le _⟩ (fun H locs hP hD hS => ?_)
  have hD : va_D A (wM ad cI M) := hD
  refine lv_if_eq (tgt := 16) hx hb dX4_mean_6 (by decide) (fun c_6 => ?_) (fun c_6 => ?_)
  · refine lv_ldc2 hx hb hown (hts (.constantLong RX4 50 (-9223372036854775808 : Int64)) (by decide +kernel)) dX4_mean_16 ?_
    have hF : f_X4_mean M x1 = (-9223372036854775808 : Int64) := by rw [f_X4_mean, if_pos c_6]
    rw [hF]
    exact kr_l B hP hS rfl rfl dX4_mean_19
  · refine lv_aload_n hx hb dX4_mean_9 rfl (lv_at hl 0 rfl) ?_
    refine va_get (D := D) (ci := 4) (v := .int (M_isIn M)) (C := RX4) (T := TX4) (N := 24) hx hb hts iw_X4_mean_4 hown hK hP 0 rfl rfl 7 (by decide) (hts (.fieldLink RX4 96 "TownLispModel" "isIn" "I") (by decide +kernel)) (fun _ h9 => h9) rfl dX4_mean_10 ?_
    refine lv_if_ne (tgt := 20) hx hb dX4_mean_13 (by decide) (fun c_13 => ?_) (fun c_13 => ?_)
    · refine lv_aload_n hx hb dX4_mean_20 rfl (lv_at hl 0 rfl) ?_
      refine lv_aload_n hx hb dX4_mean_21 rfl (lv_at hl 0 rfl) ?_
      refine va_get (D := D) (ci := 4) (v := .int (M_isIn M)) (C := RX4) (T := TX4) (N := 24) hx hb hts iw_X4_mean_4 hown hK hP 0 rfl rfl 7 (by decide) (hts (.fieldLink RX4 96 "TownLispModel" "isIn" "I") (by decide +kernel)) (fun _ h9 => h9) rfl dX4_mean_22 ?_
      refine kc_V (As := [.int (M_isIn M)]) (rest := []) B (c_X4_partsOf l D cI cO tF ad M (M_isIn M) (hn)) (cwV 1 hts gX4_mean_X4_partsOf rfl rfl rfl (by decide +kernel) ⟨Nat.le_of_ble_eq_true rfl, Nat.le_of_ble_eq_true rfl⟩) hP hD hS [0, 1, 2, 3, 4, 5, 6, 7, 8, 9, 10, 11, 12] wM_subA (by decide) (w' := wM ad cI M) (wM_setA _) (wM_fst _) 0 4 rfl rfl rfl rfl hl.1 rfl (Nat.le_of_ble_eq_true rfl) dX4_mean_25 ⟨Nat.zero_le _, Nat.zero_le _⟩ (fun H locs hP hD hS => ?_)
      have hD : va_D A (wM ad cI M) := hD
      refine lv_i2l (v := (f_X4_partsOf M (M_isIn M)).toInt64) hx hb dX4_mean_28 rfl ?_
      refine lv_aload_n hx hb dX4_mean_29 rfl (lv_at hl 0 rfl) ?_
      refine va_get (D := D) (ci := 4) (v := .int (M_isIn M)) (C := RX4) (T := TX4) (N := 24) hx hb hts iw_X4_mean_4 hown hK hP 0 rfl rfl 7 (by decide) (hts (.fieldLink RX4 96 "TownLispModel" "isIn" "I") (by decide +kernel)) (fun _ h9 => h9) rfl dX4_mean_30 ?_
      refine kc_S (As := [.int (M_isIn M)]) (rest := [.long ((f_X4_partsOf M (M_isIn M)).toInt64)]) B (c_X4_size l D cI cO tF (M_isIn M) ) (va_cwS 1 hts gX4_mean_X4_size rfl rfl rfl (by decide +kernel) ⟨Nat.le_of_ble_eq_true rfl, Nat.le_of_ble_eq_true rfl⟩) hP hD hS [] rfl (by decide) (w' := wM ad cI M) rfl rfl rfl hl.1 rfl (Nat.le_of_ble_eq_true rfl) dX4_mean_33 ⟨Nat.zero_le _, Nat.zero_le _⟩ (fun H locs hP hD hS => ?_)
      have hD : va_D A (wM ad cI M) := hD
      refine lv_i2l (v := (f_X4_size (M_isIn M)).toInt64) hx hb dX4_mean_36 rfl ?_
      refine lv_iload_n hx hb dX4_mean_37 rfl (lv_at hl 1 rfl) ?_
      refine kc_S (As := [.long ((f_X4_partsOf M (M_isIn M)).toInt64), .long ((f_X4_size (M_isIn M)).toInt64), .int x1]) (rest := []) B (c_X4_inLeastTerms l D cI cO tF ((f_X4_partsOf M (M_isIn M)).toInt64) ((f_X4_size (M_isIn M)).toInt64) x1 (w_nn hpo) (w_ps (so_szp hso c_13))) (va_cwS 3 hts gX4_mean_X4_inLeastTerms rfl rfl rfl (by decide +kernel) ⟨Nat.le_of_ble_eq_true rfl, Nat.le_of_ble_eq_true rfl⟩) hP hD hS [] rfl (by decide) (w' := wM ad cI M) rfl rfl rfl hl.1 rfl (Nat.le_of_ble_eq_true rfl) dX4_mean_38 ⟨Nat.zero_le _, Nat.zero_le _⟩ (fun H locs hP hD hS => ?_)
      have hD : va_D A (wM ad cI M) := hD
      have hF : f_X4_mean M x1 = (f_X4_inLeastTerms ((f_X4_partsOf M (M_isIn M)).toInt64) ((f_X4_size (M_isIn M)).toInt64) x1) := by rw [f_X4_mean, if_neg c_6, if_neg c_13]
      rw [hF]
      exact kr_l B hP hS rfl rfl dX4_mean_41
    · refine lv_ldc2 hx hb hown (hts (.constantLong RX4 50 (-9223372036854775808 : Int64)) (by decide +kernel)) dX4_mean_16 ?_
      have hF : f_X4_mean M x1 = (-9223372036854775808 : Int64) := by rw [f_X4_mean, if_neg c_6, if_pos c_13]
      rw [hF]
      exact kr_l B hP hS rfl rfl dX4_mean_19
def fL_X4_gatherings_33 (M : MS) (x1 : Int32) (x2 : Int32) : Nat → Int32 → Int32 → MS → Int32 × MS
  | 0, _, _, v_M => (0, v_M)
  | k + 1, x3, x4, v_M => (if x2 ≤ ((M_parts v_M) x1.toNatClampNeg) then (if ((M_parts v_M) x1.toNatClampNeg) < x2 then ((-9 : Int32), (f_X4_putBack v_M)) else (x3, (f_X4_putBack v_M))) else (if x4 ≤ 0 then (if ((M_parts v_M) x1.toNatClampNeg) < x2 then ((-9 : Int32), (f_X4_putBack v_M)) else (x3, (f_X4_putBack v_M))) else fL_X4_gatherings_33 M x1 x2 k (x3 + (1 : Int32)) ((f_X4_doGather v_M x1).1) ((f_X4_doGather v_M x1).2)))
def f_X4_gatherings (M : MS) (x1 : Int32) (x2 : Int32) : Int32 × MS := (if (f_X4_isPerson M x1) = 0 then ((-1 : Int32), M) else (if (f_X4_within x2 (0 : Int32) (300 : Int32)) = 0 then ((-2 : Int32), M) else fL_X4_gatherings_33 M x1 x2 ((x2.toInt - ((M_parts (f_X4_keep M)) x1.toNatClampNeg).toInt).toNat * 2 + 2) (0 : Int32) (1 : Int32) (f_X4_keep M)))
theorem iw_X4_gatherings_4 : ∀ w ∈ wsX40, w ∈ wsX4_gatherings := fun _ h => List.mem_cons_of_mem _ (List.mem_append_right _ h)
set_option maxHeartbeats 4000000 in
set_option maxRecDepth 100000 in
theorem L_X4_gatherings_33 {p : Program} (l : Launch) {e : Env} {s : State} {m : MethodId} {args : Array Value} {below : List Frame} {meth : Method} {c : Code} {A : Nat → Prop} (D : va_G) (cI cO : ClassId) (tF : Nat) (ad : Nat → Nat) (M : MS) (x1 : Int32) (x2 : Int32) (hn : (M_people M).toInt ≤ 6) (B : Bx p s m args meth c cX4_gatherings 6 (some .int) wsX4_gatherings RX4 D cI cO tF A) (hp : vp_in x1 6) (hv : x2.toInt ≤ 300) : ∀ (k : Nat) (x3 : Int32) (x4 : Int32) (v_M : MS), ((M_people v_M).toInt ≤ 6) → ((x2.toInt - ((M_parts v_M) x1.toNatClampNeg).toInt).toNat * 2 + (if 0 < x4.toInt then 1 else 0) < k) → ∀ (H : Heap) (locs : List Loc), va_P D vwCl (wM ad cI v_M) H → va_D A (wM ad cI v_M) → va_S A s.heap H locs → ∀ ls : Array Slot, lv_has ls 6 [(0, .ref (ad 0)), (1, .int x1), (2, .int x2), (3, .int x3), (4, .int x4)] → W p l e ({ frames := 2, cells := 0, slots := 0, locals := 44 }) s m args below meth c H locs 0 0 (MQ below (Qp D (some (.int ((fL_X4_gatherings_33 M x1 x2 k x3 x4 v_M).1))) (wM ad cI ((fL_X4_gatherings_33 M x1 x2 k x3 x4 v_M).2)) A) args s 0 0 A) (F0 m 33 ls []) := by
  obtain ⟨hx, hb, hret, hml, hts, hown, hlocks, hE, hA⟩ := id B
  have hK := hE.1
  intro k
  induction k with
  | zero =>
    intro x3 x4 v_M hc hk
    exact absurd hk (Nat.not_lt_zero _)
  | succ k ih =>
    intro x3 x4 v_M hc hk H locs hP hD hS ls hl
    refine lv_aload_n hx hb dX4_gatherings_33 rfl (lv_at hl 0 rfl) ?_
    refine va_get (D := D) (ci := 4) (v := .ref (ad 5)) (C := RX4) (T := TX4) (N := 24) hx hb hts iw_X4_gatherings_4 hown hK hP 0 rfl rfl 10 (by decide) (hts (.fieldLink RX4 22 "TownLispModel" "parts" "[I") (by decide +kernel)) (fun _ h9 => h9) rfl dX4_gatherings_34 ?_
    refine lv_iload_n hx hb dX4_gatherings_37 rfl (lv_at hl 1 rfl) ?_
    refine va_iald hx hb hK hP 5 0 rfl rfl (hp) dX4_gatherings_38 ?_
    refine lv_iload_n hx hb dX4_gatherings_39 rfl (lv_at hl 2 rfl) ?_
    refine lv_icmp_ge (tgt := 61) hx hb dX4_gatherings_40 (by decide) (fun c_40 => ?_) (fun c_40 => ?_)
    · refine lv_aload_n hx hb dX4_gatherings_61 rfl (lv_at hl 0 rfl) ?_
      refine va_get (D := D) (ci := 4) (v := .ref (ad 5)) (C := RX4) (T := TX4) (N := 24) hx hb hts iw_X4_gatherings_4 hown hK hP 0 rfl rfl 10 (by decide) (hts (.fieldLink RX4 22 "TownLispModel" "parts" "[I") (by decide +kernel)) (fun _ h9 => h9) rfl dX4_gatherings_62 ?_
      refine lv_iload_n hx hb dX4_gatherings_65 rfl (lv_at hl 1 rfl) ?_
      refine va_iald hx hb hK hP 5 0 rfl rfl (hp) dX4_gatherings_66 ?_
      refine lv_iload_n hx hb dX4_gatherings_67 rfl (lv_at hl 2 rfl) ?_
      refine lv_icmp_lt (tgt := 75) hx hb dX4_gatherings_68 (by decide) (fun c_68 => ?_) (fun c_68 => ?_)
      · refine lv_iconst (v := (0 : Int32)) hx hb dX4_gatherings_75 (by decide) ?_
        refine lv_istore (lv' := [(5, .int (0 : Int32)), (0, .ref (ad 0)), (1, .int x1), (2, .int x2), (3, .int x3), (4, .int x4)]) hx hb dX4_gatherings_76 hl (by decide) rfl (fun ls hl => ?_)
        refine lv_aload_n hx hb dX4_gatherings_78 rfl (lv_at hl 1 rfl) ?_
        refine kc_V (As := []) (rest := []) B (c_X4_putBack l D cI cO tF ad v_M (hc)) (cwV 0 hts gX4_gatherings_X4_putBack rfl rfl rfl (by decide +kernel) ⟨Nat.le_of_ble_eq_true rfl, Nat.le_of_ble_eq_true rfl⟩) hP hD hS [0, 1, 2, 3, 4, 5, 6, 7, 8, 9, 10, 11, 12] wM_subA (by decide) (w' := wM ad cI (f_X4_putBack v_M)) (wM_setA _) (wM_fst _) 0 4 rfl rfl rfl rfl hl.1 rfl (Nat.le_of_ble_eq_true rfl) dX4_gatherings_79 ⟨Nat.zero_le _, Nat.zero_le _⟩ (fun H locs hP hD hS => ?_)
        have hD : va_D A (wM ad cI (f_X4_putBack v_M)) := hD
        refine lv_iload hx hb dX4_gatherings_82 (lv_at hl 0 rfl) ?_
        refine lv_if_eq (tgt := 91) hx hb dX4_gatherings_84 (by decide) (fun _ => ?_) (fun h => absurd h (by decide))
        refine lv_bipush (v := (-9 : Int32)) hx hb dX4_gatherings_91 (by decide) ?_
        have hF : fL_X4_gatherings_33 M x1 x2 (k + 1) x3 x4 v_M = ((-9 : Int32), (f_X4_putBack v_M)) := by rw [fL_X4_gatherings_33, if_pos c_40, if_pos c_68]
        rw [hF]
        exact kr_i B hP hS rfl rfl dX4_gatherings_93
      · refine lv_iconst (v := (1 : Int32)) hx hb dX4_gatherings_71 (by decide) ?_
        refine lv_goto (tgt := 76) hx hb dX4_gatherings_72 (by decide) ?_
        refine lv_istore (lv' := [(5, .int (1 : Int32)), (0, .ref (ad 0)), (1, .int x1), (2, .int x2), (3, .int x3), (4, .int x4)]) hx hb dX4_gatherings_76 hl (by decide) rfl (fun ls hl => ?_)
        refine lv_aload_n hx hb dX4_gatherings_78 rfl (lv_at hl 1 rfl) ?_
        refine kc_V (As := []) (rest := []) B (c_X4_putBack l D cI cO tF ad v_M (hc)) (cwV 0 hts gX4_gatherings_X4_putBack rfl rfl rfl (by decide +kernel) ⟨Nat.le_of_ble_eq_true rfl, Nat.le_of_ble_eq_true rfl⟩) hP hD hS [0, 1, 2, 3, 4, 5, 6, 7, 8, 9, 10, 11, 12] wM_subA (by decide) (w' := wM ad cI (f_X4_putBack v_M)) (wM_setA _) (wM_fst _) 0 4 rfl rfl rfl rfl hl.1 rfl (Nat.le_of_ble_eq_true rfl) dX4_gatherings_79 ⟨Nat.zero_le _, Nat.zero_le _⟩ (fun H locs hP hD hS => ?_)
        have hD : va_D A (wM ad cI (f_X4_putBack v_M)) := hD
        refine lv_iload hx hb dX4_gatherings_82 (lv_at hl 0 rfl) ?_
        refine lv_if_eq (tgt := 91) hx hb dX4_gatherings_84 (by decide) (fun h => absurd h (by decide)) (fun _ => ?_)
        refine lv_iload_n hx hb dX4_gatherings_87 rfl (lv_at hl 4 rfl) ?_
        refine lv_goto (tgt := 93) hx hb dX4_gatherings_88 (by decide) ?_
        have hF : fL_X4_gatherings_33 M x1 x2 (k + 1) x3 x4 v_M = (x3, (f_X4_putBack v_M)) := by rw [fL_X4_gatherings_33, if_pos c_40, if_neg c_68]
        rw [hF]
        exact kr_i B hP hS rfl rfl dX4_gatherings_93
    · refine lv_iload hx hb dX4_gatherings_43 (lv_at hl 4 rfl) ?_
      refine lv_if_le (tgt := 61) hx hb dX4_gatherings_45 (by decide) (fun c_45 => ?_) (fun c_45 => ?_)
      · refine lv_aload_n hx hb dX4_gatherings_61 rfl (lv_at hl 0 rfl) ?_
        refine va_get (D := D) (ci := 4) (v := .ref (ad 5)) (C := RX4) (T := TX4) (N := 24) hx hb hts iw_X4_gatherings_4 hown hK hP 0 rfl rfl 10 (by decide) (hts (.fieldLink RX4 22 "TownLispModel" "parts" "[I") (by decide +kernel)) (fun _ h9 => h9) rfl dX4_gatherings_62 ?_
        refine lv_iload_n hx hb dX4_gatherings_65 rfl (lv_at hl 1 rfl) ?_
        refine va_iald hx hb hK hP 5 0 rfl rfl (hp) dX4_gatherings_66 ?_
        refine lv_iload_n hx hb dX4_gatherings_67 rfl (lv_at hl 2 rfl) ?_
        refine lv_icmp_lt (tgt := 75) hx hb dX4_gatherings_68 (by decide) (fun c_68 => ?_) (fun c_68 => ?_)
        · refine lv_iconst (v := (0 : Int32)) hx hb dX4_gatherings_75 (by decide) ?_
          refine lv_istore (lv' := [(5, .int (0 : Int32)), (0, .ref (ad 0)), (1, .int x1), (2, .int x2), (3, .int x3), (4, .int x4)]) hx hb dX4_gatherings_76 hl (by decide) rfl (fun ls hl => ?_)
          refine lv_aload_n hx hb dX4_gatherings_78 rfl (lv_at hl 1 rfl) ?_
          refine kc_V (As := []) (rest := []) B (c_X4_putBack l D cI cO tF ad v_M (hc)) (cwV 0 hts gX4_gatherings_X4_putBack rfl rfl rfl (by decide +kernel) ⟨Nat.le_of_ble_eq_true rfl, Nat.le_of_ble_eq_true rfl⟩) hP hD hS [0, 1, 2, 3, 4, 5, 6, 7, 8, 9, 10, 11, 12] wM_subA (by decide) (w' := wM ad cI (f_X4_putBack v_M)) (wM_setA _) (wM_fst _) 0 4 rfl rfl rfl rfl hl.1 rfl (Nat.le_of_ble_eq_true rfl) dX4_gatherings_79 ⟨Nat.zero_le _, Nat.zero_le _⟩ (fun H locs hP hD hS => ?_)
          have hD : va_D A (wM ad cI (f_X4_putBack v_M)) := hD
          refine lv_iload hx hb dX4_gatherings_82 (lv_at hl 0 rfl) ?_
          refine lv_if_eq (tgt := 91) hx hb dX4_gatherings_84 (by decide) (fun _ => ?_) (fun h => absurd h (by decide))
          refine lv_bipush (v := (-9 : Int32)) hx hb dX4_gatherings_91 (by decide) ?_
          have hF : fL_X4_gatherings_33 M x1 x2 (k + 1) x3 x4 v_M = ((-9 : Int32), (f_X4_putBack v_M)) := by rw [fL_X4_gatherings_33, if_neg c_40, if_pos c_45, if_pos c_68]
          rw [hF]
          exact kr_i B hP hS rfl rfl dX4_gatherings_93
        · refine lv_iconst (v := (1 : Int32)) hx hb dX4_gatherings_71 (by decide) ?_
          refine lv_goto (tgt := 76) hx hb dX4_gatherings_72 (by decide) ?_
          refine lv_istore (lv' := [(5, .int (1 : Int32)), (0, .ref (ad 0)), (1, .int x1), (2, .int x2), (3, .int x3), (4, .int x4)]) hx hb dX4_gatherings_76 hl (by decide) rfl (fun ls hl => ?_)
          refine lv_aload_n hx hb dX4_gatherings_78 rfl (lv_at hl 1 rfl) ?_
          refine kc_V (As := []) (rest := []) B (c_X4_putBack l D cI cO tF ad v_M (hc)) (cwV 0 hts gX4_gatherings_X4_putBack rfl rfl rfl (by decide +kernel) ⟨Nat.le_of_ble_eq_true rfl, Nat.le_of_ble_eq_true rfl⟩) hP hD hS [0, 1, 2, 3, 4, 5, 6, 7, 8, 9, 10, 11, 12] wM_subA (by decide) (w' := wM ad cI (f_X4_putBack v_M)) (wM_setA _) (wM_fst _) 0 4 rfl rfl rfl rfl hl.1 rfl (Nat.le_of_ble_eq_true rfl) dX4_gatherings_79 ⟨Nat.zero_le _, Nat.zero_le _⟩ (fun H locs hP hD hS => ?_)
          have hD : va_D A (wM ad cI (f_X4_putBack v_M)) := hD
          refine lv_iload hx hb dX4_gatherings_82 (lv_at hl 0 rfl) ?_
          refine lv_if_eq (tgt := 91) hx hb dX4_gatherings_84 (by decide) (fun h => absurd h (by decide)) (fun _ => ?_)
          refine lv_iload_n hx hb dX4_gatherings_87 rfl (lv_at hl 4 rfl) ?_
          refine lv_goto (tgt := 93) hx hb dX4_gatherings_88 (by decide) ?_
          have hF : fL_X4_gatherings_33 M x1 x2 (k + 1) x3 x4 v_M = (x3, (f_X4_putBack v_M)) := by rw [fL_X4_gatherings_33, if_neg c_40, if_pos c_45, if_neg c_68]
          rw [hF]
          exact kr_i B hP hS rfl rfl dX4_gatherings_93
      · refine lv_aload_n hx hb dX4_gatherings_48 rfl (lv_at hl 0 rfl) ?_
        refine lv_iload_n hx hb dX4_gatherings_49 rfl (lv_at hl 1 rfl) ?_
        refine kc_V (As := [.int x1]) (rest := []) B (c_X4_doGather l D cI cO tF ad v_M x1 (hc) (hp)) (cwV 1 hts gX4_gatherings_X4_doGather rfl rfl rfl (by decide +kernel) ⟨Nat.le_of_ble_eq_true rfl, Nat.le_of_ble_eq_true rfl⟩) hP hD hS [0, 1, 2, 3, 4, 5, 6, 7, 8, 9, 10, 11, 12] wM_subA (by decide) (w' := wM ad cI ((f_X4_doGather v_M x1).2)) (wM_setA _) (wM_fst _) 0 4 rfl rfl rfl rfl hl.1 rfl (Nat.le_of_ble_eq_true rfl) dX4_gatherings_50 ⟨Nat.zero_le _, Nat.zero_le _⟩ (fun H locs hP hD hS => ?_)
        have hD : va_D A (wM ad cI ((f_X4_doGather v_M x1).2)) := hD
        refine lv_istore (lv' := [(4, .int ((f_X4_doGather v_M x1).1)), (0, .ref (ad 0)), (1, .int x1), (2, .int x2), (3, .int x3)]) hx hb dX4_gatherings_53 hl (by decide) rfl (fun ls hl => ?_)
        refine lv_iinc (v := (x3 + (1 : Int32))) (lv' := [(3, .int (x3 + (1 : Int32))), (4, .int ((f_X4_doGather v_M x1).1)), (0, .ref (ad 0)), (1, .int x1), (2, .int x2)]) hx hb dX4_gatherings_55 hl (k := 4) rfl rfl (by decide) rfl (fun ls hl => ?_)
        refine lv_goto (tgt := 33) hx hb dX4_gatherings_58 (by decide) ?_
        have hF : fL_X4_gatherings_33 M x1 x2 (k + 1) x3 x4 v_M = fL_X4_gatherings_33 M x1 x2 k (x3 + (1 : Int32)) ((f_X4_doGather v_M x1).1) ((f_X4_doGather v_M x1).2) := by rw [fL_X4_gatherings_33, if_neg c_40, if_neg c_45]
        rw [hF]
        exact ih (x3 + (1 : Int32)) ((f_X4_doGather v_M x1).1) ((f_X4_doGather v_M x1).2) (gth_c hc hp) (gth_mu hc hp hv c_40 c_45 hk) _ _ hP hD hS ls (lv_sub hl [2, 3, 4, 0, 1] rfl)
set_option maxHeartbeats 4000000 in
set_option maxRecDepth 100000 in
theorem c_X4_gatherings (l : Launch) (D : va_G) (cI cO : ClassId) (tF : Nat) (ad : Nat → Nat) (M : MS) (x1 : Int32) (x2 : Int32) (hn : (M_people M).toInt ≤ 6) : Ct l yX4_gatherings wsX4_gatherings ({ frames := 2, cells := 0, slots := 0, locals := 44 }) D cI cO tF [.ref (ad 0), .int x1, .int x2] (wM ad cI M) (some (.int ((f_X4_gatherings M x1 x2).1))) (wM ad cI ((f_X4_gatherings M x1 x2).2)) := by
  refine Ct.of (cc := cX4_gatherings) (maxL := 6) (ret := (some .int)) (own := RX4) (by decide) rfl rfl (Nat.le_of_ble_eq_true rfl) ?_
  intro p e s m args below meth c A ls B hP hD hS hl
  obtain ⟨hx, hb, hret, hml, hts, hown, hlocks, hE, hA⟩ := id B
  have hK := hE.1
  have hl : lv_has ls 6 [(0, .ref (ad 0)), (1, .int x1), (2, .int x2)] := hl
  refine lv_aload_n hx hb dX4_gatherings_0 rfl (lv_at hl 0 rfl) ?_
  refine lv_iload_n hx hb dX4_gatherings_1 rfl (lv_at hl 1 rfl) ?_
  refine kc_V (As := [.int x1]) (rest := []) B (c_X4_isPerson l D cI cO tF ad M x1 ) (cwV 1 hts gX4_gatherings_X4_isPerson rfl rfl rfl (by decide +kernel) ⟨Nat.le_of_ble_eq_true rfl, Nat.le_of_ble_eq_true rfl⟩) hP hD hS [0, 1, 2, 3, 4, 5, 6, 7, 8, 9, 10, 11, 12] wM_subA (by decide) (w' := wM ad cI M) (wM_setA _) (wM_fst _) 0 4 rfl rfl rfl rfl hl.1 rfl (Nat.le_of_ble_eq_true rfl) dX4_gatherings_2 ⟨Nat.zero_le _, Nat.zero_le _⟩ (fun H locs hP hD hS => ?_)
  have hD : va_D A (wM ad cI M) := hD
  refine lv_if_ne (tgt := 10) hx hb dX4_gatherings_5 (by decide) (fun c_5 => ?_) (fun c_5 => ?_)
  · refine lv_iload_n hx hb dX4_gatherings_10 rfl (lv_at hl 2 rfl) ?_
    refine lv_iconst (v := (0 : Int32)) hx hb dX4_gatherings_11 (by decide) ?_
    refine lv_sipush (v := (300 : Int32)) hx hb dX4_gatherings_12 (by decide) ?_
    refine kc_S (As := [.int x2, .int (0 : Int32), .int (300 : Int32)]) (rest := []) B (c_X4_within l D cI cO tF x2 (0 : Int32) (300 : Int32) ) (va_cwS 3 hts gX4_gatherings_X4_within rfl rfl rfl (by decide +kernel) ⟨Nat.le_of_ble_eq_true rfl, Nat.le_of_ble_eq_true rfl⟩) hP hD hS [] rfl (by decide) (w' := wM ad cI M) rfl rfl rfl hl.1 rfl (Nat.le_of_ble_eq_true rfl) dX4_gatherings_15 ⟨Nat.zero_le _, Nat.zero_le _⟩ (fun H locs hP hD hS => ?_)
    have hD : va_D A (wM ad cI M) := hD
    refine lv_if_ne (tgt := 24) hx hb dX4_gatherings_18 (by decide) (fun c_18 => ?_) (fun c_18 => ?_)
    · refine lv_aload_n hx hb dX4_gatherings_24 rfl (lv_at hl 0 rfl) ?_
      refine kc_V (As := []) (rest := []) B (c_X4_keep l D cI cO tF ad M (hn)) (cwV 0 hts gX4_gatherings_X4_keep rfl rfl rfl (by decide +kernel) ⟨Nat.le_of_ble_eq_true rfl, Nat.le_of_ble_eq_true rfl⟩) hP hD hS [0, 1, 2, 3, 4, 5, 6, 7, 8, 9, 10, 11, 12] wM_subA (by decide) (w' := wM ad cI (f_X4_keep M)) (wM_setA _) (wM_fst _) 0 4 rfl rfl rfl rfl hl.1 rfl (Nat.le_of_ble_eq_true rfl) dX4_gatherings_25 ⟨Nat.zero_le _, Nat.zero_le _⟩ (fun H locs hP hD hS => ?_)
      have hD : va_D A (wM ad cI (f_X4_keep M)) := hD
      refine lv_iconst (v := (0 : Int32)) hx hb dX4_gatherings_28 (by decide) ?_
      refine lv_istore_n (lv' := [(3, .int (0 : Int32)), (0, .ref (ad 0)), (1, .int x1), (2, .int x2)]) hx hb dX4_gatherings_29 rfl hl (by decide) rfl (fun ls hl => ?_)
      refine lv_iconst (v := (1 : Int32)) hx hb dX4_gatherings_30 (by decide) ?_
      refine lv_istore (lv' := [(4, .int (1 : Int32)), (3, .int (0 : Int32)), (0, .ref (ad 0)), (1, .int x1), (2, .int x2)]) hx hb dX4_gatherings_31 hl (by decide) rfl (fun ls hl => ?_)
      have hF : f_X4_gatherings M x1 x2 = fL_X4_gatherings_33 M x1 x2 ((x2.toInt - ((M_parts (f_X4_keep M)) x1.toNatClampNeg).toInt).toNat * 2 + 2) (0 : Int32) (1 : Int32) (f_X4_keep M) := by rw [f_X4_gatherings, if_neg c_5, if_neg c_18]
      rw [hF]
      exact L_X4_gatherings_33 l D cI cO tF ad M x1 x2 hn B (mi_in hn c_5) ((wi_r c_18).2) ((x2.toInt - ((M_parts (f_X4_keep M)) x1.toNatClampNeg).toInt).toNat * 2 + 2) (0 : Int32) (1 : Int32) (f_X4_keep M) (keep_c hn) (by split <;> omega) _ _ hP hD hS ls (lv_sub hl [2, 3, 4, 1, 0] rfl)
    · refine lv_bipush (v := (-2 : Int32)) hx hb dX4_gatherings_21 (by decide) ?_
      have hF : f_X4_gatherings M x1 x2 = ((-2 : Int32), M) := by rw [f_X4_gatherings, if_neg c_5, if_pos c_18]
      rw [hF]
      exact kr_i B hP hS rfl rfl dX4_gatherings_23
  · refine lv_iconst (v := (-1 : Int32)) hx hb dX4_gatherings_8 (by decide) ?_
    have hF : f_X4_gatherings M x1 x2 = ((-1 : Int32), M) := by rw [f_X4_gatherings, if_pos c_5]
    rw [hF]
    exact kr_i B hP hS rfl rfl dX4_gatherings_9
def fL_X4_level_24 (M : MS) (x1 : Int32) : Nat → Int32 → Int32
  | 0, _ => 0
  | k + 1, x2 => (if (M_tin M) < (f_X4_missingTo M (x2 + (1 : Int32))) then (if x1 = 0 then x2 else ((M_tin M) - (f_X4_missingTo M x2))) else fL_X4_level_24 M x1 k (x2 + (1 : Int32)))
def f_X4_level (M : MS) (x1 : Int32) : Int32 := (if (f_X4_within x1 (0 : Int32) (1 : Int32)) = 0 then (-2 : Int32) else (if (M_isIn M) = 0 then (-3 : Int32) else fL_X4_level_24 M x1 602 (0 : Int32)))
theorem iw_X4_level_4 : ∀ w ∈ wsX40, w ∈ wsX4_level := fun _ h => List.mem_cons_of_mem _ (List.mem_append_right _ h)
set_option maxHeartbeats 4000000 in
set_option maxRecDepth 100000 in
theorem L_X4_level_24 {p : Program} (l : Launch) {e : Env} {s : State} {m : MethodId} {args : Array Value} {below : List Frame} {meth : Method} {c : Code} {A : Nat → Prop} (D : va_G) (cI cO : ClassId) (tF : Nat) (ad : Nat → Nat) (M : MS) (x1 : Int32) (hn : (M_people M).toInt ≤ 6) (hlv : ¬ (M_isIn M) = 0 → ∀ v : Int32, 0 ≤ v.toInt ∧ v.toInt ≤ 600 → f_X4_missingTo M (v + (1 : Int32)) ≤ M_tin M → (0 ≤ (v + (1 : Int32)).toInt ∧ (v + (1 : Int32)).toInt ≤ 600) ∧ v.toInt < 600) (B : Bx p s m args meth c cX4_level 3 (some .int) wsX4_level RX4 D cI cO tF A) (hi : ¬ (M_isIn M) = 0) : ∀ (k : Nat) (x2 : Int32), (0 ≤ x2.toInt ∧ x2.toInt ≤ 600) → ((601 - x2.toInt).toNat < k) → ∀ (H : Heap) (locs : List Loc), va_P D vwCl (wM ad cI M) H → va_D A (wM ad cI M) → va_S A s.heap H locs → ∀ ls : Array Slot, lv_has ls 3 [(0, .ref (ad 0)), (1, .int x1), (2, .int x2)] → W p l e ({ frames := 2, cells := 0, slots := 0, locals := 44 }) s m args below meth c H locs 0 0 (MQ below (Qp D (some (.int (fL_X4_level_24 M x1 k x2))) (wM ad cI M) A) args s 0 0 A) (F0 m 24 ls []) := by
  obtain ⟨hx, hb, hret, hml, hts, hown, hlocks, hE, hA⟩ := id B
  have hK := hE.1
  intro k
  induction k with
  | zero =>
    intro x2 h0 hk
    exact absurd hk (Nat.not_lt_zero _)
  | succ k ih =>
    intro x2 h0 hk H locs hP hD hS ls hl
    refine lv_aload_n hx hb dX4_level_24 rfl (lv_at hl 0 rfl) ?_
    refine lv_iload_n hx hb dX4_level_25 rfl (lv_at hl 2 rfl) ?_
    refine lv_iconst (v := (1 : Int32)) hx hb dX4_level_26 (by decide) ?_
    refine lv_iadd hx hb dX4_level_27 ?_
    refine kc_V (As := [.int (x2 + (1 : Int32))]) (rest := []) B (c_X4_missingTo l D cI cO tF ad M (x2 + (1 : Int32)) (hn)) (cwV 1 hts gX4_level_X4_missingTo rfl rfl rfl (by decide +kernel) ⟨Nat.le_of_ble_eq_true rfl, Nat.le_of_ble_eq_true rfl⟩) hP hD hS [0, 1, 2, 3, 4, 5, 6, 7, 8, 9, 10, 11, 12] wM_subA (by decide) (w' := wM ad cI M) (wM_setA _) (wM_fst _) 0 4 rfl rfl rfl rfl hl.1 rfl (Nat.le_of_ble_eq_true rfl) dX4_level_28 ⟨Nat.zero_le _, Nat.zero_le _⟩ (fun H locs hP hD hS => ?_)
    have hD : va_D A (wM ad cI M) := hD
    refine lv_aload_n hx hb dX4_level_31 rfl (lv_at hl 0 rfl) ?_
    refine va_get (D := D) (ci := 4) (v := .int (M_tin M)) (C := RX4) (T := TX4) (N := 24) hx hb hts iw_X4_level_4 hown hK hP 0 rfl rfl 6 (by decide) (hts (.fieldLink RX4 90 "TownLispModel" "tin" "I") (by decide +kernel)) (fun _ h9 => h9) rfl dX4_level_32 ?_
    refine lv_icmp_gt (tgt := 44) hx hb dX4_level_35 (by decide) (fun c_35 => ?_) (fun c_35 => ?_)
    · refine lv_iload_n hx hb dX4_level_44 rfl (lv_at hl 1 rfl) ?_
      refine lv_if_ne (tgt := 52) hx hb dX4_level_45 (by decide) (fun c_45 => ?_) (fun c_45 => ?_)
      · refine lv_aload_n hx hb dX4_level_52 rfl (lv_at hl 0 rfl) ?_
        refine va_get (D := D) (ci := 4) (v := .int (M_tin M)) (C := RX4) (T := TX4) (N := 24) hx hb hts iw_X4_level_4 hown hK hP 0 rfl rfl 6 (by decide) (hts (.fieldLink RX4 90 "TownLispModel" "tin" "I") (by decide +kernel)) (fun _ h9 => h9) rfl dX4_level_53 ?_
        refine lv_aload_n hx hb dX4_level_56 rfl (lv_at hl 0 rfl) ?_
        refine lv_iload_n hx hb dX4_level_57 rfl (lv_at hl 2 rfl) ?_
        refine kc_V (As := [.int x2]) (rest := [.int (M_tin M)]) B (c_X4_missingTo l D cI cO tF ad M x2 (hn)) (cwV 1 hts gX4_level_X4_missingTo rfl rfl rfl (by decide +kernel) ⟨Nat.le_of_ble_eq_true rfl, Nat.le_of_ble_eq_true rfl⟩) hP hD hS [0, 1, 2, 3, 4, 5, 6, 7, 8, 9, 10, 11, 12] wM_subA (by decide) (w' := wM ad cI M) (wM_setA _) (wM_fst _) 0 4 rfl rfl rfl rfl hl.1 rfl (Nat.le_of_ble_eq_true rfl) dX4_level_58 ⟨Nat.zero_le _, Nat.zero_le _⟩ (fun H locs hP hD hS => ?_)
        have hD : va_D A (wM ad cI M) := hD
        refine lv_isub hx hb dX4_level_61 ?_
        have hF : fL_X4_level_24 M x1 (k + 1) x2 = ((M_tin M) - (f_X4_missingTo M x2)) := by rw [fL_X4_level_24, if_pos c_35, if_neg c_45]
        rw [hF]
        exact kr_i B hP hS rfl rfl dX4_level_62
      · refine lv_iload_n hx hb dX4_level_48 rfl (lv_at hl 2 rfl) ?_
        refine lv_goto (tgt := 62) hx hb dX4_level_49 (by decide) ?_
        have hF : fL_X4_level_24 M x1 (k + 1) x2 = x2 := by rw [fL_X4_level_24, if_pos c_35, if_pos c_45]
        rw [hF]
        exact kr_i B hP hS rfl rfl dX4_level_62
    · refine lv_iinc (v := (x2 + (1 : Int32))) (lv' := [(2, .int (x2 + (1 : Int32))), (0, .ref (ad 0)), (1, .int x1)]) hx hb dX4_level_38 hl (k := 2) rfl rfl (by decide) rfl (fun ls hl => ?_)
      refine lv_goto (tgt := 24) hx hb dX4_level_41 (by decide) ?_
      have hF : fL_X4_level_24 M x1 (k + 1) x2 = fL_X4_level_24 M x1 k (x2 + (1 : Int32)) := by rw [fL_X4_level_24, if_neg c_35]
      rw [hF]
      exact ih (x2 + (1 : Int32)) ((hlv hi _ h0 (fa_of_nlt c_35)).1) (lv_601 h0.1 (hlv hi _ h0 (fa_of_nlt c_35)).2 hk) _ _ hP hD hS ls (lv_sub hl [1, 2, 0] rfl)
set_option maxHeartbeats 4000000 in
set_option maxRecDepth 100000 in
theorem c_X4_level (l : Launch) (D : va_G) (cI cO : ClassId) (tF : Nat) (ad : Nat → Nat) (M : MS) (x1 : Int32) (hn : (M_people M).toInt ≤ 6) (hlv : ¬ (M_isIn M) = 0 → ∀ v : Int32, 0 ≤ v.toInt ∧ v.toInt ≤ 600 → f_X4_missingTo M (v + (1 : Int32)) ≤ M_tin M → (0 ≤ (v + (1 : Int32)).toInt ∧ (v + (1 : Int32)).toInt ≤ 600) ∧ v.toInt < 600) : Ct l yX4_level wsX4_level ({ frames := 2, cells := 0, slots := 0, locals := 44 }) D cI cO tF [.ref (ad 0), .int x1] (wM ad cI M) (some (.int (f_X4_level M x1))) (wM ad cI M) := by
  refine Ct.of (cc := cX4_level) (maxL := 3) (ret := (some .int)) (own := RX4) (by decide) rfl rfl (Nat.le_of_ble_eq_true rfl) ?_
  intro p e s m args below meth c A ls B hP hD hS hl
  obtain ⟨hx, hb, hret, hml, hts, hown, hlocks, hE, hA⟩ := id B
  have hK := hE.1
  have hl : lv_has ls 3 [(0, .ref (ad 0)), (1, .int x1)] := hl
  refine lv_iload_n hx hb dX4_level_0 rfl (lv_at hl 1 rfl) ?_
  refine lv_iconst (v := (0 : Int32)) hx hb dX4_level_1 (by decide) ?_
  refine lv_iconst (v := (1 : Int32)) hx hb dX4_level_2 (by decide) ?_
  refine kc_S (As := [.int x1, .int (0 : Int32), .int (1 : Int32)]) (rest := []) B (c_X4_within l D cI cO tF x1 (0 : Int32) (1 : Int32) ) (va_cwS 3 hts gX4_level_X4_within rfl rfl rfl (by decide +kernel) ⟨Nat.le_of_ble_eq_true rfl, Nat.le_of_ble_eq_true rfl⟩) hP hD hS [] rfl (by decide) (w' := wM ad cI M) rfl rfl rfl hl.1 rfl (Nat.le_of_ble_eq_true rfl) dX4_level_3 ⟨Nat.zero_le _, Nat.zero_le _⟩ (fun H locs hP hD hS => ?_)
  have hD : va_D A (wM ad cI M) := hD
  refine lv_if_ne (tgt := 12) hx hb dX4_level_6 (by decide) (fun c_6 => ?_) (fun c_6 => ?_)
  · refine lv_aload_n hx hb dX4_level_12 rfl (lv_at hl 0 rfl) ?_
    refine va_get (D := D) (ci := 4) (v := .int (M_isIn M)) (C := RX4) (T := TX4) (N := 24) hx hb hts iw_X4_level_4 hown hK hP 0 rfl rfl 7 (by decide) (hts (.fieldLink RX4 96 "TownLispModel" "isIn" "I") (by decide +kernel)) (fun _ h9 => h9) rfl dX4_level_13 ?_
    refine lv_if_ne (tgt := 22) hx hb dX4_level_16 (by decide) (fun c_16 => ?_) (fun c_16 => ?_)
    · refine lv_iconst (v := (0 : Int32)) hx hb dX4_level_22 (by decide) ?_
      refine lv_istore_n (lv' := [(2, .int (0 : Int32)), (0, .ref (ad 0)), (1, .int x1)]) hx hb dX4_level_23 rfl hl (by decide) rfl (fun ls hl => ?_)
      have hF : f_X4_level M x1 = fL_X4_level_24 M x1 602 (0 : Int32) := by rw [f_X4_level, if_neg c_6, if_neg c_16]
      rw [hF]
      exact L_X4_level_24 l D cI cO tF ad M x1 hn hlv B (c_16) 602 (0 : Int32) (⟨by decide, by decide⟩) (by decide) _ _ hP hD hS ls (lv_sub hl [1, 2, 0] rfl)
    · refine lv_bipush (v := (-3 : Int32)) hx hb dX4_level_19 (by decide) ?_
      have hF : f_X4_level M x1 = (-3 : Int32) := by rw [f_X4_level, if_neg c_6, if_pos c_16]
      rw [hF]
      exact kr_i B hP hS rfl rfl dX4_level_21
  · refine lv_bipush (v := (-2 : Int32)) hx hb dX4_level_9 (by decide) ?_
    have hF : f_X4_level M x1 = (-2 : Int32) := by rw [f_X4_level, if_pos c_6]
    rw [hF]
    exact kr_i B hP hS rfl rfl dX4_level_11
def f_X4_tellYear (M : MS) (x1 : Int32) : Int32 := (if x1 < (10 : Int32) then (if x1 = 0 then (M_tin M) else (if x1 = (2 : Int32) then (M_isIn M) else (f_X4_saidNow M))) else (if (f_X4_isPerson M (x1 - (10 : Int32))) = 0 then (-9 : Int32) else ((M_parts M) (x1 - (10 : Int32)).toNatClampNeg)))
theorem iw_X4_tellYear_4 : ∀ w ∈ wsX40, w ∈ wsX4_tellYear := fun _ h => List.mem_cons_of_mem _ (List.mem_append_right _ h)
set_option maxHeartbeats 4000000 in
set_option maxRecDepth 100000 in
theorem c_X4_tellYear (l : Launch) (D : va_G) (cI cO : ClassId) (tF : Nat) (ad : Nat → Nat) (M : MS) (x1 : Int32) (hn : (M_people M).toInt ≤ 6) (ht : ∀ i : Nat, (i : Int) < (M_people M).toInt → ¬ M_thick M i = 0) : Ct l yX4_tellYear wsX4_tellYear ({ frames := 2, cells := 0, slots := 0, locals := 45 }) D cI cO tF [.ref (ad 0), .int x1] (wM ad cI M) (some (.int (f_X4_tellYear M x1))) (wM ad cI M) := by
  refine Ct.of (cc := cX4_tellYear) (maxL := 2) (ret := (some .int)) (own := RX4) (by decide) rfl rfl (Nat.le_of_ble_eq_true rfl) ?_
  intro p e s m args below meth c A ls B hP hD hS hl
  obtain ⟨hx, hb, hret, hml, hts, hown, hlocks, hE, hA⟩ := id B
  have hK := hE.1
  have hl : lv_has ls 2 [(0, .ref (ad 0)), (1, .int x1)] := hl
  refine lv_iload_n hx hb dX4_tellYear_0 rfl (lv_at hl 1 rfl) ?_
  refine lv_bipush (v := (10 : Int32)) hx hb dX4_tellYear_1 (by decide) ?_
  refine lv_icmp_lt (tgt := 32) hx hb dX4_tellYear_3 (by decide) (fun c_3 => ?_) (fun c_3 => ?_)
  · refine lv_iload_n hx hb dX4_tellYear_32 rfl (lv_at hl 1 rfl) ?_
    refine lv_if_ne (tgt := 43) hx hb dX4_tellYear_33 (by decide) (fun c_33 => ?_) (fun c_33 => ?_)
    · refine lv_iload_n hx hb dX4_tellYear_43 rfl (lv_at hl 1 rfl) ?_
      refine lv_iconst (v := (2 : Int32)) hx hb dX4_tellYear_44 (by decide) ?_
      refine lv_icmp_ne (tgt := 55) hx hb dX4_tellYear_45 (by decide) (fun c_45 => ?_) (fun c_45 => ?_)
      · refine lv_aload_n hx hb dX4_tellYear_55 rfl (lv_at hl 0 rfl) ?_
        refine kc_V (As := []) (rest := []) B (c_X4_saidNow l D cI cO tF ad M (hn) (ht)) (cwV 0 hts gX4_tellYear_X4_saidNow rfl rfl rfl (by decide +kernel) ⟨Nat.le_of_ble_eq_true rfl, Nat.le_of_ble_eq_true rfl⟩) hP hD hS [0, 1, 2, 3, 4, 5, 6, 7, 8, 9, 10, 11, 12] wM_subA (by decide) (w' := wM ad cI M) (wM_setA _) (wM_fst _) 0 4 rfl rfl rfl rfl hl.1 rfl (Nat.le_of_ble_eq_true rfl) dX4_tellYear_56 ⟨Nat.zero_le _, Nat.zero_le _⟩ (fun H locs hP hD hS => ?_)
        have hD : va_D A (wM ad cI M) := hD
        have hF : f_X4_tellYear M x1 = (f_X4_saidNow M) := by rw [f_X4_tellYear, if_pos c_3, if_neg c_33, if_neg c_45]
        rw [hF]
        exact kr_i B hP hS rfl rfl dX4_tellYear_59
      · refine lv_aload_n hx hb dX4_tellYear_48 rfl (lv_at hl 0 rfl) ?_
        refine va_get (D := D) (ci := 4) (v := .int (M_isIn M)) (C := RX4) (T := TX4) (N := 24) hx hb hts iw_X4_tellYear_4 hown hK hP 0 rfl rfl 7 (by decide) (hts (.fieldLink RX4 96 "TownLispModel" "isIn" "I") (by decide +kernel)) (fun _ h9 => h9) rfl dX4_tellYear_49 ?_
        refine lv_goto (tgt := 59) hx hb dX4_tellYear_52 (by decide) ?_
        have hF : f_X4_tellYear M x1 = (M_isIn M) := by rw [f_X4_tellYear, if_pos c_3, if_neg c_33, if_pos c_45]
        rw [hF]
        exact kr_i B hP hS rfl rfl dX4_tellYear_59
    · refine lv_aload_n hx hb dX4_tellYear_36 rfl (lv_at hl 0 rfl) ?_
      refine va_get (D := D) (ci := 4) (v := .int (M_tin M)) (C := RX4) (T := TX4) (N := 24) hx hb hts iw_X4_tellYear_4 hown hK hP 0 rfl rfl 6 (by decide) (hts (.fieldLink RX4 90 "TownLispModel" "tin" "I") (by decide +kernel)) (fun _ h9 => h9) rfl dX4_tellYear_37 ?_
      refine lv_goto (tgt := 59) hx hb dX4_tellYear_40 (by decide) ?_
      have hF : f_X4_tellYear M x1 = (M_tin M) := by rw [f_X4_tellYear, if_pos c_3, if_pos c_33]
      rw [hF]
      exact kr_i B hP hS rfl rfl dX4_tellYear_59
  · refine lv_aload_n hx hb dX4_tellYear_6 rfl (lv_at hl 0 rfl) ?_
    refine lv_iload_n hx hb dX4_tellYear_7 rfl (lv_at hl 1 rfl) ?_
    refine lv_bipush (v := (10 : Int32)) hx hb dX4_tellYear_8 (by decide) ?_
    refine lv_isub hx hb dX4_tellYear_10 ?_
    refine kc_V (As := [.int (x1 - (10 : Int32))]) (rest := []) B (c_X4_isPerson l D cI cO tF ad M (x1 - (10 : Int32)) ) (cwV 1 hts gX4_tellYear_X4_isPerson rfl rfl rfl (by decide +kernel) ⟨Nat.le_of_ble_eq_true rfl, Nat.le_of_ble_eq_true rfl⟩) hP hD hS [0, 1, 2, 3, 4, 5, 6, 7, 8, 9, 10, 11, 12] wM_subA (by decide) (w' := wM ad cI M) (wM_setA _) (wM_fst _) 0 4 rfl rfl rfl rfl hl.1 rfl (Nat.le_of_ble_eq_true rfl) dX4_tellYear_11 ⟨Nat.zero_le _, Nat.zero_le _⟩ (fun H locs hP hD hS => ?_)
    have hD : va_D A (wM ad cI M) := hD
    refine lv_if_eq (tgt := 29) hx hb dX4_tellYear_14 (by decide) (fun c_14 => ?_) (fun c_14 => ?_)
    · refine lv_bipush (v := (-9 : Int32)) hx hb dX4_tellYear_29 (by decide) ?_
      have hF : f_X4_tellYear M x1 = (-9 : Int32) := by rw [f_X4_tellYear, if_neg c_3, if_pos c_14]
      rw [hF]
      exact kr_i B hP hS rfl rfl dX4_tellYear_31
    · refine lv_aload_n hx hb dX4_tellYear_17 rfl (lv_at hl 0 rfl) ?_
      refine va_get (D := D) (ci := 4) (v := .ref (ad 5)) (C := RX4) (T := TX4) (N := 24) hx hb hts iw_X4_tellYear_4 hown hK hP 0 rfl rfl 10 (by decide) (hts (.fieldLink RX4 22 "TownLispModel" "parts" "[I") (by decide +kernel)) (fun _ h9 => h9) rfl dX4_tellYear_18 ?_
      refine lv_iload_n hx hb dX4_tellYear_21 rfl (lv_at hl 1 rfl) ?_
      refine lv_bipush (v := (10 : Int32)) hx hb dX4_tellYear_22 (by decide) ?_
      refine lv_isub hx hb dX4_tellYear_24 ?_
      refine va_iald hx hb hK hP 5 0 rfl rfl (mi_in hn c_14) dX4_tellYear_25 ?_
      refine lv_goto (tgt := 31) hx hb dX4_tellYear_26 (by decide) ?_
      have hF : f_X4_tellYear M x1 = ((M_parts M) (x1 - (10 : Int32)).toNatClampNeg) := by rw [f_X4_tellYear, if_neg c_3, if_neg c_14]
      rw [hF]
      exact kr_i B hP hS rfl rfl dX4_tellYear_31
def f_X4_does (M : MS) (x1 : Int32) (x2 : Int32) : MS := (if x2 = (0 : Int32) then (f_X4_doDay M x1) else (if x2 = (1 : Int32) then (f_X4_doLeave M x1) else (if x2 = (2 : Int32) then (M_isIn' M ((M_isIn M) ||| ((1 : Int32) <<< (x1 &&& 31)))) else (if x2 = (3 : Int32) then (f_X4_doGather M x1).2 else (f_X4_doOpen M x1).2))))
theorem iw_X4_does_4 : ∀ w ∈ wsX40, w ∈ wsX4_does := fun _ h => List.mem_cons_of_mem _ (List.mem_append_right _ h)
set_option maxHeartbeats 4000000 in
set_option maxRecDepth 100000 in
theorem c_X4_does (l : Launch) (D : va_G) (cI cO : ClassId) (tF : Nat) (ad : Nat → Nat) (M : MS) (x1 : Int32) (x2 : Int32) (hn : (M_people M).toInt ≤ 6) (hf : 0 ≤ x1.toInt ∧ x1.toInt < (M_people M).toInt) (hso : so (M_isIn M) (M_people M)) (hs0 : x2 = (0 : Int32) → ¬ (M_isIn M) = 0) : Ct l yX4_does wsX4_does ({ frames := 4, cells := 0, slots := 0, locals := 93 }) D cI cO tF [.ref (ad 0), .int x1, .int x2] (wM ad cI M) none (wM ad cI (f_X4_does M x1 x2)) := by
  refine Ct.of (cc := cX4_does) (maxL := 3) (ret := none) (own := RX4) (by decide) rfl rfl (Nat.le_of_ble_eq_true rfl) ?_
  intro p e s m args below meth c A ls B hP hD hS hl
  obtain ⟨hx, hb, hret, hml, hts, hown, hlocks, hE, hA⟩ := id B
  have hK := hE.1
  have hl : lv_has ls 3 [(0, .ref (ad 0)), (1, .int x1), (2, .int x2)] := hl
  refine lv_iload_n hx hb dX4_does_0 rfl (lv_at hl 2 rfl) ?_
  by_cases c_1_0 : x2 = (0 : Int32)
  · refine lv_tableIn (off := 31) (tgt := 32) hx hb dX4_does_1 (by rw [c_1_0]; decide) (by rw [c_1_0]; decide) (by rw [c_1_0]; rfl) (by decide) ?_
    refine lv_aload_n hx hb dX4_does_32 rfl (lv_at hl 0 rfl) ?_
    refine lv_iload_n hx hb dX4_does_33 rfl (lv_at hl 1 rfl) ?_
    refine kc_V (As := [.int x1]) (rest := []) B (c_X4_doDay l D cI cO tF ad M x1 (hn) (hf) (so_sz hso (hs0 c_1_0))) (cwV 1 hts gX4_does_X4_doDay rfl rfl rfl (by decide +kernel) ⟨Nat.le_of_ble_eq_true rfl, Nat.le_of_ble_eq_true rfl⟩) hP hD hS [0, 1, 2, 3, 4, 5, 6, 7, 8, 9, 10, 11, 12] wM_subA (by decide) (w' := wM ad cI (f_X4_doDay M x1)) (wM_setA _) (wM_fst _) 0 4 rfl rfl rfl rfl hl.1 rfl (Nat.le_of_ble_eq_true rfl) dX4_does_34 ⟨Nat.zero_le _, Nat.zero_le _⟩ (fun H locs hP hD hS => ?_)
    have hD : va_D A (wM ad cI (f_X4_doDay M x1)) := hD
    have hF : f_X4_does M x1 x2 = (f_X4_doDay M x1) := by rw [f_X4_does, if_pos c_1_0]
    rw [hF]
    exact kr_v B hP hS rfl dX4_does_37
  by_cases c_1_1 : x2 = (1 : Int32)
  · refine lv_tableIn (off := 37) (tgt := 38) hx hb dX4_does_1 (by rw [c_1_1]; decide) (by rw [c_1_1]; decide) (by rw [c_1_1]; rfl) (by decide) ?_
    refine lv_aload_n hx hb dX4_does_38 rfl (lv_at hl 0 rfl) ?_
    refine lv_iload_n hx hb dX4_does_39 rfl (lv_at hl 1 rfl) ?_
    refine kc_V (As := [.int x1]) (rest := []) B (c_X4_doLeave l D cI cO tF ad M x1 (hn) (q_in hn hf) (so_hex hso hf)) (cwV 1 hts gX4_does_X4_doLeave rfl rfl rfl (by decide +kernel) ⟨Nat.le_of_ble_eq_true rfl, Nat.le_of_ble_eq_true rfl⟩) hP hD hS [0, 1, 2, 3, 4, 5, 6, 7, 8, 9, 10, 11, 12] wM_subA (by decide) (w' := wM ad cI (f_X4_doLeave M x1)) (wM_setA _) (wM_fst _) 0 4 rfl rfl rfl rfl hl.1 rfl (Nat.le_of_ble_eq_true rfl) dX4_does_40 ⟨Nat.zero_le _, Nat.zero_le _⟩ (fun H locs hP hD hS => ?_)
    have hD : va_D A (wM ad cI (f_X4_doLeave M x1)) := hD
    have hF : f_X4_does M x1 x2 = (f_X4_doLeave M x1) := by rw [f_X4_does, if_neg c_1_0, if_pos c_1_1]
    rw [hF]
    exact kr_v B hP hS rfl dX4_does_43
  by_cases c_1_2 : x2 = (2 : Int32)
  · refine lv_tableIn (off := 43) (tgt := 44) hx hb dX4_does_1 (by rw [c_1_2]; decide) (by rw [c_1_2]; decide) (by rw [c_1_2]; rfl) (by decide) ?_
    refine lv_aload_n hx hb dX4_does_44 rfl (lv_at hl 0 rfl) ?_
    refine lv_dup hx hb dX4_does_45 rfl ?_
    refine va_get (D := D) (ci := 4) (v := .int (M_isIn M)) (C := RX4) (T := TX4) (N := 24) hx hb hts iw_X4_does_4 hown hK hP 0 rfl rfl 7 (by decide) (hts (.fieldLink RX4 96 "TownLispModel" "isIn" "I") (by decide +kernel)) (fun _ h9 => h9) rfl dX4_does_46 ?_
    refine lv_iconst (v := (1 : Int32)) hx hb dX4_does_49 (by decide) ?_
    refine lv_iload_n hx hb dX4_does_50 rfl (lv_at hl 1 rfl) ?_
    refine lv_ishl hx hb dX4_does_51 ?_
    refine lv_ior hx hb dX4_does_52 ?_
    refine va_put (D := D) (ci := 4) (v := .int ((M_isIn M) ||| ((1 : Int32) <<< (x1 &&& 31)))) (ty := .int) (C := RX4) (T := TX4) (N := 24) hx hb hts iw_X4_does_4 tyX4 tyX4_ok nmX4 hown hK hP hD hS 0 rfl rfl 7 (by decide) (hts (.fieldLink RX4 96 "TownLispModel" "isIn" "I") (by decide +kernel)) (fun _ h9 => h9) rfl (by decide +kernel) rfl rfl (Nat.le_of_ble_eq_true rfl) dX4_does_53 (fun H locs hP hD hS => ?_)
    have hP : va_P D vwCl (wM ad cI (M_isIn' M ((M_isIn M) ||| ((1 : Int32) <<< (x1 &&& 31))))) H := hP
    have hD : va_D A (wM ad cI (M_isIn' M ((M_isIn M) ||| ((1 : Int32) <<< (x1 &&& 31))))) := hD
    have hF : f_X4_does M x1 x2 = (M_isIn' M ((M_isIn M) ||| ((1 : Int32) <<< (x1 &&& 31)))) := by rw [f_X4_does, if_neg c_1_0, if_neg c_1_1, if_pos c_1_2]
    rw [hF]
    exact kr_v B hP hS rfl dX4_does_56
  by_cases c_1_3 : x2 = (3 : Int32)
  · refine lv_tableIn (off := 56) (tgt := 57) hx hb dX4_does_1 (by rw [c_1_3]; decide) (by rw [c_1_3]; decide) (by rw [c_1_3]; rfl) (by decide) ?_
    refine lv_aload_n hx hb dX4_does_57 rfl (lv_at hl 0 rfl) ?_
    refine lv_iload_n hx hb dX4_does_58 rfl (lv_at hl 1 rfl) ?_
    refine kc_V (As := [.int x1]) (rest := []) B (c_X4_doGather l D cI cO tF ad M x1 (hn) (q_in hn hf)) (cwV 1 hts gX4_does_X4_doGather rfl rfl rfl (by decide +kernel) ⟨Nat.le_of_ble_eq_true rfl, Nat.le_of_ble_eq_true rfl⟩) hP hD hS [0, 1, 2, 3, 4, 5, 6, 7, 8, 9, 10, 11, 12] wM_subA (by decide) (w' := wM ad cI ((f_X4_doGather M x1).2)) (wM_setA _) (wM_fst _) 0 4 rfl rfl rfl rfl hl.1 rfl (Nat.le_of_ble_eq_true rfl) dX4_does_59 ⟨Nat.zero_le _, Nat.zero_le _⟩ (fun H locs hP hD hS => ?_)
    have hD : va_D A (wM ad cI ((f_X4_doGather M x1).2)) := hD
    refine lv_pop hx hb dX4_does_62 rfl ?_
    have hF : f_X4_does M x1 x2 = (f_X4_doGather M x1).2 := by rw [f_X4_does, if_neg c_1_0, if_neg c_1_1, if_neg c_1_2, if_pos c_1_3]
    rw [hF]
    exact kr_v B hP hS rfl dX4_does_63
  refine lv_tableOut (tgt := 64) hx hb dX4_does_1 (sw_out4 c_1_0 c_1_1 c_1_2 c_1_3) (by decide) ?_
  refine lv_aload_n hx hb dX4_does_64 rfl (lv_at hl 0 rfl) ?_
  refine lv_iload_n hx hb dX4_does_65 rfl (lv_at hl 1 rfl) ?_
  refine kc_V (As := [.int x1]) (rest := []) B (c_X4_doOpen l D cI cO tF ad M x1 (q_in hn hf)) (cwV 1 hts gX4_does_X4_doOpen rfl rfl rfl (by decide +kernel) ⟨Nat.le_of_ble_eq_true rfl, Nat.le_of_ble_eq_true rfl⟩) hP hD hS [0, 1, 2, 3, 4, 5, 6, 7, 8, 9, 10, 11, 12] wM_subA (by decide) (w' := wM ad cI ((f_X4_doOpen M x1).2)) (wM_setA _) (wM_fst _) 0 4 rfl rfl rfl rfl hl.1 rfl (Nat.le_of_ble_eq_true rfl) dX4_does_66 ⟨Nat.zero_le _, Nat.zero_le _⟩ (fun H locs hP hD hS => ?_)
  have hD : va_D A (wM ad cI ((f_X4_doOpen M x1).2)) := hD
  refine lv_pop hx hb dX4_does_69 rfl ?_
  have hF : f_X4_does M x1 x2 = (f_X4_doOpen M x1).2 := by rw [f_X4_does, if_neg c_1_0, if_neg c_1_1, if_neg c_1_2, if_neg c_1_3]
  rw [hF]
  exact kr_v B hP hS rfl dX4_does_70
