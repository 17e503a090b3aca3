def fL_X2_handOut_28 (T : TN) (x1 : Int32) (x2 : Int32) (x3 : Int32) : Nat → Int32 → Int32 → (Nat → Int32) → TN
  | 0, _, _, v_parts => (T_parts' T v_parts)
  | k + 1, x4, x5, v_parts => (if (T_count T) ≤ x5 then (T_parts' T v_parts) else (if (f_X2_isIn (T_parts' T v_parts) ((x2 + x5) - (x2 + x5) / (T_count T) * (T_count T))) = 0 then fL_X2_handOut_28 T x1 x2 x3 k x4 (x5 + (1 : Int32)) v_parts else (if x4 ≤ 0 then fL_X2_handOut_28 T x1 x2 x3 k (x4 + (-1 : Int32)) (x5 + (1 : Int32)) (upd v_parts ((x2 + x5) - (x2 + x5) / (T_count T) * (T_count T)).toNatClampNeg ((v_parts ((x2 + x5) - (x2 + x5) / (T_count T) * (T_count T)).toNatClampNeg) + ((x1 / x3) + (0 : Int32)))) else fL_X2_handOut_28 T x1 x2 x3 k (x4 + (-1 : Int32)) (x5 + (1 : Int32)) (upd v_parts ((x2 + x5) - (x2 + x5) / (T_count T) * (T_count T)).toNatClampNeg ((v_parts ((x2 + x5) - (x2 + x5) / (T_count T) * (T_count T)).toNatClampNeg) + ((x1 / x3) + (1 : Int32)))))))
def f_X2_handOut (T : TN) (x1 : Int32) (x2 : Int32) : TN := (if (f_X2_heads T) = 0 then (T_tin' T ((T_tin T) + x1)) else fL_X2_handOut_28 T x1 x2 (f_X2_heads T) 7 (x1 - x1 / (f_X2_heads T) * (f_X2_heads T)) (0 : Int32) (T_parts T))
theorem iw_X2_handOut_2 : ∀ w ∈ wsX20, w ∈ wsX2_handOut := fun _ h => List.mem_cons_of_mem _ (List.mem_append_right _ h)
set_option maxHeartbeats 4000000 in
set_option maxRecDepth 100000 in
theorem L_X2_handOut_28 {p : Program} (l : Launch) {e : Env} {s : State} {m : MethodId} {args : Array Value} {below : List Frame} {meth : Method} {c : Code} {A : Nat → Prop} (D : va_G) (cI cO : ClassId) (tF : Nat) (a0 a1 a2 a3 : Nat) (T : TN) (x1 : Int32) (x2 : Int32) (x3 : Int32) (hn : (T_count T).toInt ≤ 6) (hp : vp_in x2 6) (B : Bx p s m args meth c cX2_handOut 7 none wsX2_handOut RX2 D cI cO tF A) (hh : ¬ x3 = 0) : ∀ (k : Nat) (x4 : Int32) (x5 : Int32) (v_parts : (Nat → Int32)), (0 ≤ x5.toInt) → (((T_count T).toInt - x5.toInt).toNat < k) → ∀ (H : Heap) (locs : List Loc), va_P D vwCl (wT a0 a1 a2 a3 cI (T_parts' T v_parts)) H → va_D A (wT a0 a1 a2 a3 cI (T_parts' T v_parts)) → va_S A s.heap H locs → ∀ ls : Array Slot, lv_has ls 7 [(0, .ref a0), (1, .int x1), (2, .int x2), (3, .int x3), (4, .int x4), (5, .int x5)] → W p l e ({ frames := 2, cells := 0, slots := 0, locals := 42 }) s m args below meth c H locs 0 0 (MQ below (Qp D none (wT a0 a1 a2 a3 cI (fL_X2_handOut_28 T x1 x2 x3 k x4 x5 v_parts)) A) args s 0 0 A) (F0 m 28 ls []) := by
  obtain ⟨hx, hb, hret, hml, hts, hown, hlocks, hE, hA⟩ := id B
  have hK := hE.1
  intro k
  induction k with
  | zero =>
    intro x4 x5 v_parts h0 hk
    exact absurd hk (Nat.not_lt_zero _)
  | succ k ih =>
    intro x4 x5 v_parts h0 hk H locs hP hD hS ls hl
    refine lv_iload hx hb dX2_handOut_28 (lv_at hl 5 rfl) ?_
    refine lv_aload_n hx hb dX2_handOut_30 rfl (lv_at hl 0 rfl) ?_
    refine va_get (D := D) (ci := 2) (v := .int (T_count T)) (C := RX2) (T := TX2) (N := 6) hx hb hts iw_X2_handOut_2 hown hK hP 0 rfl rfl 3 (by decide) (hts (.fieldLink RX2 30 "TownLisp$Town" "count" "I") (by decide +kernel)) (fun _ h9 => h9) rfl dX2_handOut_31 ?_
    refine lv_icmp_ge (tgt := 90) hx hb dX2_handOut_34 (by decide) (fun c_34 => ?_) (fun c_34 => ?_)
    · have hF : fL_X2_handOut_28 T x1 x2 x3 (k + 1) x4 x5 v_parts = (T_parts' T v_parts) := by rw [fL_X2_handOut_28, if_pos c_34]
      rw [hF]
      exact kr_v B hP hS rfl dX2_handOut_90
    · refine lv_iload_n hx hb dX2_handOut_37 rfl (lv_at hl 2 rfl) ?_
      refine lv_iload hx hb dX2_handOut_38 (lv_at hl 5 rfl) ?_
      refine lv_iadd hx hb dX2_handOut_40 ?_
      refine lv_aload_n hx hb dX2_handOut_41 rfl (lv_at hl 0 rfl) ?_
      refine va_get (D := D) (ci := 2) (v := .int (T_count T)) (C := RX2) (T := TX2) (N := 6) hx hb hts iw_X2_handOut_2 hown hK hP 0 rfl rfl 3 (by decide) (hts (.fieldLink RX2 30 "TownLisp$Town" "count" "I") (by decide +kernel)) (fun _ h9 => h9) rfl dX2_handOut_42 ?_
      refine lv_irem hx hb dX2_handOut_45 (nz_of h0 c_34) ?_
      refine lv_istore (lv' := [(6, .int ((x2 + x5) - (x2 + x5) / (T_count T) * (T_count T))), (0, .ref a0), (1, .int x1), (2, .int x2), (3, .int x3), (4, .int x4), (5, .int x5)]) hx hb dX2_handOut_46 hl (by decide) rfl (fun ls hl => ?_)
      refine lv_aload_n hx hb dX2_handOut_48 rfl (lv_at hl 1 rfl) ?_
      refine lv_iload hx hb dX2_handOut_49 (lv_at hl 0 rfl) ?_
      refine kc_V (As := [.int ((x2 + x5) - (x2 + x5) / (T_count T) * (T_count T))]) (rest := []) B (c_X2_isIn l D cI cO tF a0 a1 a2 a3 (T_parts' T v_parts) ((x2 + x5) - (x2 + x5) / (T_count T) * (T_count T)) ) (cwV 1 hts gX2_handOut_X2_isIn rfl rfl rfl (by decide +kernel) ⟨Nat.le_of_ble_eq_true rfl, Nat.le_of_ble_eq_true rfl⟩) hP hD hS [0, 1, 2, 3] rfl (by decide) (w' := wT a0 a1 a2 a3 cI (T_parts' T v_parts)) rfl rfl 0 2 rfl rfl rfl rfl hl.1 rfl (Nat.le_of_ble_eq_true rfl) dX2_handOut_51 ⟨Nat.zero_le _, Nat.zero_le _⟩ (fun H locs hP hD hS => ?_)
      have hD : va_D A (wT a0 a1 a2 a3 cI (T_parts' T v_parts)) := hD
      refine lv_if_eq (tgt := 84) hx hb dX2_handOut_54 (by decide) (fun c_54 => ?_) (fun c_54 => ?_)
      · refine lv_iinc (v := (x5 + (1 : Int32))) (lv' := [(5, .int (x5 + (1 : Int32))), (6, .int ((x2 + x5) - (x2 + x5) / (T_count T) * (T_count T))), (0, .ref a0), (1, .int x1), (2, .int x2), (3, .int x3), (4, .int x4)]) hx hb dX2_handOut_84 hl (k := 6) rfl rfl (by decide) rfl (fun ls hl => ?_)
        refine lv_goto (tgt := 28) hx hb dX2_handOut_87 (by decide) ?_
        have hF : fL_X2_handOut_28 T x1 x2 x3 (k + 1) x4 x5 v_parts = fL_X2_handOut_28 T x1 x2 x3 k x4 (x5 + (1 : Int32)) v_parts := by rw [fL_X2_handOut_28, if_neg c_34, if_pos c_54]
        rw [hF]
        exact ih x4 (x5 + (1 : Int32)) v_parts (lp_pre h0 c_34) (lp_mu h0 c_34 hk) _ _ hP hD hS ls (lv_sub hl [2, 3, 4, 5, 6, 0] rfl)
      · refine lv_aload_n hx hb dX2_handOut_57 rfl (lv_at hl 1 rfl) ?_
        refine va_get (D := D) (ci := 2) (v := .ref a2) (C := RX2) (T := TX2) (N := 6) hx hb hts iw_X2_handOut_2 hown hK hP 0 rfl rfl 1 (by decide) (hts (.fieldLink RX2 15 "TownLisp$Town" "parts" "[I") (by decide +kernel)) (fun _ h9 => h9) rfl dX2_handOut_58 ?_
        refine lv_iload hx hb dX2_handOut_61 (lv_at hl 0 rfl) ?_
        refine lv_dup2_11 hx hb dX2_handOut_63 rfl rfl ?_
        refine va_iald hx hb hK hP 2 0 rfl rfl (rnd_in hp h0 hn c_34) dX2_handOut_64 ?_
        refine lv_iload_n hx hb dX2_handOut_65 rfl (lv_at hl 2 rfl) ?_
        refine lv_iload_n hx hb dX2_handOut_66 rfl (lv_at hl 4 rfl) ?_
        refine lv_idiv hx hb dX2_handOut_67 (hh) ?_
        refine lv_iload hx hb dX2_handOut_68 (lv_at hl 5 rfl) ?_
        refine lv_if_le (tgt := 77) hx hb dX2_handOut_70 (by decide) (fun c_70 => ?_) (fun c_70 => ?_)
        · refine lv_iconst (v := (0 : Int32)) hx hb dX2_handOut_77 (by decide) ?_
          refine lv_iadd hx hb dX2_handOut_78 ?_
          refine lv_iadd hx hb dX2_handOut_79 ?_
          refine va_iast hx hb hK hP hD hS 2 0 rfl rfl (rnd_in hp h0 hn c_34) dX2_handOut_80 (fun H locs hP hD hS => ?_)
          have hP : va_P D vwCl (wT a0 a1 a2 a3 cI (T_parts' T (upd v_parts ((x2 + x5) - (x2 + x5) / (T_count T) * (T_count T)).toNatClampNeg ((v_parts ((x2 + x5) - (x2 + x5) / (T_count T) * (T_count T)).toNatClampNeg) + ((x1 / x3) + (0 : Int32)))))) H := hP
          have hD : va_D A (wT a0 a1 a2 a3 cI (T_parts' T (upd v_parts ((x2 + x5) - (x2 + x5) / (T_count T) * (T_count T)).toNatClampNeg ((v_parts ((x2 + x5) - (x2 + x5) / (T_count T) * (T_count T)).toNatClampNeg) + ((x1 / x3) + (0 : Int32)))))) := hD
          refine lv_iinc (v := (x4 + (-1 : Int32))) (lv' := [(4, .int (x4 + (-1 : Int32))), (6, .int ((x2 + x5) - (x2 + x5) / (T_count T) * (T_count T))), (0, .ref a0), (1, .int x1), (2, .int x2), (3, .int x3), (5, .int x5)]) hx hb dX2_handOut_81 hl (k := 5) rfl rfl (by decide) rfl (fun ls hl => ?_)
          refine lv_iinc (v := (x5 + (1 : Int32))) (lv' := [(5, .int (x5 + (1 : Int32))), (4, .int (x4 + (-1 : Int32))), (6, .int ((x2 + x5) - (x2 + x5) / (T_count T) * (T_count T))), (0, .ref a0), (1, .int x1), (2, .int x2), (3, .int x3)]) hx hb dX2_handOut_84 hl (k := 6) rfl rfl (by decide) rfl (fun ls hl => ?_)
          refine lv_goto (tgt := 28) hx hb dX2_handOut_87 (by decide) ?_
          have hF : fL_X2_handOut_28 T x1 x2 x3 (k + 1) x4 x5 v_parts = fL_X2_handOut_28 T x1 x2 x3 k (x4 + (-1 : Int32)) (x5 + (1 : Int32)) (upd v_parts ((x2 + x5) - (x2 + x5) / (T_count T) * (T_count T)).toNatClampNeg ((v_parts ((x2 + x5) - (x2 + x5) / (T_count T) * (T_count T)).toNatClampNeg) + ((x1 / x3) + (0 : Int32)))) := by rw [fL_X2_handOut_28, if_neg c_34, if_neg c_54, if_pos c_70]
          rw [hF]
          exact ih (x4 + (-1 : Int32)) (x5 + (1 : Int32)) (upd v_parts ((x2 + x5) - (x2 + x5) / (T_count T) * (T_count T)).toNatClampNeg ((v_parts ((x2 + x5) - (x2 + x5) / (T_count T) * (T_count T)).toNatClampNeg) + ((x1 / x3) + (0 : Int32)))) (lp_pre h0 c_34) (lp_mu h0 c_34 hk) _ _ hP hD hS ls (lv_sub hl [3, 4, 5, 6, 1, 0] rfl)
        · refine lv_iconst (v := (1 : Int32)) hx hb dX2_handOut_73 (by decide) ?_
          refine lv_goto (tgt := 78) hx hb dX2_handOut_74 (by decide) ?_
          refine lv_iadd hx hb dX2_handOut_78 ?_
          refine lv_iadd hx hb dX2_handOut_79 ?_
          refine va_iast hx hb hK hP hD hS 2 0 rfl rfl (rnd_in hp h0 hn c_34) dX2_handOut_80 (fun H locs hP hD hS => ?_)
          have hP : va_P D vwCl (wT a0 a1 a2 a3 cI (T_parts' T (upd v_parts ((x2 + x5) - (x2 + x5) / (T_count T) * (T_count T)).toNatClampNeg ((v_parts ((x2 + x5) - (x2 + x5) / (T_count T) * (T_count T)).toNatClampNeg) + ((x1 / x3) + (1 : Int32)))))) H := hP
          have hD : va_D A (wT a0 a1 a2 a3 cI (T_parts' T (upd v_parts ((x2 + x5) - (x2 + x5) / (T_count T) * (T_count T)).toNatClampNeg ((v_parts ((x2 + x5) - (x2 + x5) / (T_count T) * (T_count T)).toNatClampNeg) + ((x1 / x3) + (1 : Int32)))))) := hD
          refine lv_iinc (v := (x4 + (-1 : Int32))) (lv' := [(4, .int (x4 + (-1 : Int32))), (6, .int ((x2 + x5) - (x2 + x5) / (T_count T) * (T_count T))), (0, .ref a0), (1, .int x1), (2, .int x2), (3, .int x3), (5, .int x5)]) hx hb dX2_handOut_81 hl (k := 5) rfl rfl (by decide) rfl (fun ls hl => ?_)
          refine lv_iinc (v := (x5 + (1 : Int32))) (lv' := [(5, .int (x5 + (1 : Int32))), (4, .int (x4 + (-1 : Int32))), (6, .int ((x2 + x5) - (x2 + x5) / (T_count T) * (T_count T))), (0, .ref a0), (1, .int x1), (2, .int x2), (3, .int x3)]) hx hb dX2_handOut_84 hl (k := 6) rfl rfl (by decide) rfl (fun ls hl => ?_)
          refine lv_goto (tgt := 28) hx hb dX2_handOut_87 (by decide) ?_
          have hF : fL_X2_handOut_28 T x1 x2 x3 (k + 1) x4 x5 v_parts = fL_X2_handOut_28 T x1 x2 x3 k (x4 + (-1 : Int32)) (x5 + (1 : Int32)) (upd v_parts ((x2 + x5) - (x2 + x5) / (T_count T) * (T_count T)).toNatClampNeg ((v_parts ((x2 + x5) - (x2 + x5) / (T_count T) * (T_count T)).toNatClampNeg) + ((x1 / x3) + (1 : Int32)))) := by rw [fL_X2_handOut_28, if_neg c_34, if_neg c_54, if_neg c_70]
          rw [hF]
          exact ih (x4 + (-1 : Int32)) (x5 + (1 : Int32)) (upd v_parts ((x2 + x5) - (x2 + x5) / (T_count T) * (T_count T)).toNatClampNeg ((v_parts ((x2 + x5) - (x2 + x5) / (T_count T) * (T_count T)).toNatClampNeg) + ((x1 / x3) + (1 : Int32)))) (lp_pre h0 c_34) (lp_mu h0 c_34 hk) _ _ hP hD hS ls (lv_sub hl [3, 4, 5, 6, 1, 0] rfl)
set_option maxHeartbeats 4000000 in
set_option maxRecDepth 100000 in
theorem c_X2_handOut (l : Launch) (D : va_G) (cI cO : ClassId) (tF : Nat) (a0 a1 a2 a3 : Nat) (T : TN) (x1 : Int32) (x2 : Int32) (hn : (T_count T).toInt ≤ 6) (hp : vp_in x2 6) : Ct l yX2_handOut wsX2_handOut ({ frames := 2, cells := 0, slots := 0, locals := 42 }) D cI cO tF [.ref a0, .int x1, .int x2] (wT a0 a1 a2 a3 cI T) none (wT a0 a1 a2 a3 cI (f_X2_handOut T x1 x2)) := by
  refine Ct.of (cc := cX2_handOut) (maxL := 7) (ret := none) (own := RX2) (by decide) rfl rfl (Nat.le_of_ble_eq_true rfl) ?_
  intro p e s m args below meth c A ls B hP hD hS hl
  obtain ⟨hx, hb, hret, hml, hts, hown, hlocks, hE, hA⟩ := id B
  have hK := hE.1
  have hl : lv_has ls 7 [(0, .ref a0), (1, .int x1), (2, .int x2)] := hl
  refine lv_aload_n hx hb dX2_handOut_0 rfl (lv_at hl 0 rfl) ?_
  refine kc_V (As := []) (rest := []) B (c_X2_heads l D cI cO tF a0 a1 a2 a3 T ) (cwV 0 hts gX2_handOut_X2_heads rfl rfl rfl (by decide +kernel) ⟨Nat.le_of_ble_eq_true rfl, Nat.le_of_ble_eq_true rfl⟩) hP hD hS [0, 1, 2, 3] rfl (by decide) (w' := wT a0 a1 a2 a3 cI T) rfl rfl 0 2 rfl rfl rfl rfl hl.1 rfl (Nat.le_of_ble_eq_true rfl) dX2_handOut_1 ⟨Nat.zero_le _, Nat.zero_le _⟩ (fun H locs hP hD hS => ?_)
  have hD : va_D A (wT a0 a1 a2 a3 cI T) := hD
  refine lv_istore_n (lv' := [(3, .int (f_X2_heads T)), (0, .ref a0), (1, .int x1), (2, .int x2)]) hx hb dX2_handOut_4 rfl hl (by decide) rfl (fun ls hl => ?_)
  refine lv_iload_n hx hb dX2_handOut_5 rfl (lv_at hl 0 rfl) ?_
  refine lv_if_ne (tgt := 20) hx hb dX2_handOut_6 (by decide) (fun c_6 => ?_) (fun c_6 => ?_)
  · refine lv_iload_n hx hb dX2_handOut_20 rfl (lv_at hl 2 rfl) ?_
    refine lv_iload_n hx hb dX2_handOut_21 rfl (lv_at hl 0 rfl) ?_
    refine lv_irem hx hb dX2_handOut_22 (c_6) ?_
    refine lv_istore (lv' := [(4, .int (x1 - x1 / (f_X2_heads T) * (f_X2_heads T))), (3, .int (f_X2_heads T)), (0, .ref a0), (1, .int x1), (2, .int x2)]) hx hb dX2_handOut_23 hl (by decide) rfl (fun ls hl => ?_)
    refine lv_iconst (v := (0 : Int32)) hx hb dX2_handOut_25 (by decide) ?_
    refine lv_istore (lv' := [(5, .int (0 : Int32)), (4, .int (x1 - x1 / (f_X2_heads T) * (f_X2_heads T))), (3, .int (f_X2_heads T)), (0, .ref a0), (1, .int x1), (2, .int x2)]) hx hb dX2_handOut_26 hl (by decide) rfl (fun ls hl => ?_)
    have hF : f_X2_handOut T x1 x2 = fL_X2_handOut_28 T x1 x2 (f_X2_heads T) 7 (x1 - x1 / (f_X2_heads T) * (f_X2_heads T)) (0 : Int32) (T_parts T) := by rw [f_X2_handOut, if_neg c_6]
    rw [hF]
    exact L_X2_handOut_28 l D cI cO tF a0 a1 a2 a3 T x1 x2 (f_X2_heads T) hn hp B (c_6) 7 (x1 - x1 / (f_X2_heads T) * (f_X2_heads T)) (0 : Int32) (T_parts T) (Int.le_refl _) (by rw [show (0 : Int32).toInt = 0 from rfl]; omega) _ _ hP hD hS ls (lv_sub hl [3, 4, 5, 2, 1, 0] rfl)
  · refine lv_aload_n hx hb dX2_handOut_9 rfl (lv_at hl 1 rfl) ?_
    refine lv_dup hx hb dX2_handOut_10 rfl ?_
    refine va_get (D := D) (ci := 2) (v := .int (T_tin T)) (C := RX2) (T := TX2) (N := 6) hx hb hts iw_X2_handOut_2 hown hK hP 0 rfl rfl 5 (by decide) (hts (.fieldLink RX2 38 "TownLisp$Town" "tin" "I") (by decide +kernel)) (fun _ h9 => h9) rfl dX2_handOut_11 ?_
    refine lv_iload_n hx hb dX2_handOut_14 rfl (lv_at hl 2 rfl) ?_
    refine lv_iadd hx hb dX2_handOut_15 ?_
    refine va_put (D := D) (ci := 2) (v := .int ((T_tin T) + x1)) (ty := .int) (C := RX2) (T := TX2) (N := 6) hx hb hts iw_X2_handOut_2 tyX2 tyX2_ok nmX2 hown hK hP hD hS 0 rfl rfl 5 (by decide) (hts (.fieldLink RX2 38 "TownLisp$Town" "tin" "I") (by decide +kernel)) (fun _ h9 => h9) rfl (by decide +kernel) rfl rfl (Nat.le_of_ble_eq_true rfl) dX2_handOut_16 (fun H locs hP hD hS => ?_)
    have hP : va_P D vwCl (wT a0 a1 a2 a3 cI (T_tin' T ((T_tin T) + x1))) H := hP
    have hD : va_D A (wT a0 a1 a2 a3 cI (T_tin' T ((T_tin T) + x1))) := hD
    have hF : f_X2_handOut T x1 x2 = (T_tin' T ((T_tin T) + x1)) := by rw [f_X2_handOut, if_pos c_6]
    rw [hF]
    exact kr_v B hP hS rfl dX2_handOut_19
def fL_X2_shareFrom_17 (T : TN) (x1 : Int32) (x2 : Int32) (x3 : Int32) : Nat → Int32 → (Nat → Int32) → Int32 × TN
  | 0, _, v_parts => (0, (T_parts' T v_parts))
  | k + 1, x4, v_parts => (if (T_count T) ≤ x4 then (if x3 ≤ 0 then ((0 : Int32), (f_X2_handOut (T_parts' T v_parts) x2 x1)) else ((x2 / x3), (f_X2_handOut (T_parts' T v_parts) x2 x1))) else (if (f_X2_isIn (T_parts' T v_parts) x4) = 0 then fL_X2_shareFrom_17 T x1 x2 x3 k (x4 + (1 : Int32)) (upd v_parts x4.toNatClampNeg (v_parts x4.toNatClampNeg)) else fL_X2_shareFrom_17 T x1 x2 x3 k (x4 + (1 : Int32)) (upd v_parts x4.toNatClampNeg (0 : Int32))))
def f_X2_shareFrom (T : TN) (x1 : Int32) : Int32 × TN := fL_X2_shareFrom_17 T x1 (f_X2_partsOf T (T_inside T)) (f_X2_heads T) 7 (0 : Int32) (T_parts T)
theorem iw_X2_shareFrom_2 : ∀ w ∈ wsX20, w ∈ wsX2_shareFrom := fun _ h => List.mem_cons_of_mem _ (List.mem_append_right _ h)
set_option maxHeartbeats 4000000 in
set_option maxRecDepth 100000 in
theorem L_X2_shareFrom_17 {p : Program} (l : Launch) {e : Env} {s : State} {m : MethodId} {args : Array Value} {below : List Frame} {meth : Method} {c : Code} {A : Nat → Prop} (D : va_G) (cI cO : ClassId) (tF : Nat) (a0 a1 a2 a3 : Nat) (T : TN) (x1 : Int32) (x2 : Int32) (x3 : Int32) (hn : (T_count T).toInt ≤ 6) (hp : vp_in x1 6) (B : Bx p s m args meth c cX2_shareFrom 5 (some .int) wsX2_shareFrom RX2 D cI cO tF A) : ∀ (k : Nat) (x4 : Int32) (v_parts : (Nat → Int32)), (0 ≤ x4.toInt) → (((T_count T).toInt - x4.toInt).toNat < k) → ∀ (H : Heap) (locs : List Loc), va_P D vwCl (wT a0 a1 a2 a3 cI (T_parts' T v_parts)) H → va_D A (wT a0 a1 a2 a3 cI (T_parts' T v_parts)) → va_S A s.heap H locs → ∀ ls : Array Slot, lv_has ls 5 [(0, .ref a0), (1, .int x1), (2, .int x2), (3, .int x3), (4, .int x4)] → W p l e ({ frames := 3, cells := 0, slots := 0, locals := 68 }) s m args below meth c H locs 0 0 (MQ below (Qp D (some (.int ((fL_X2_shareFrom_17 T x1 x2 x3 k x4 v_parts).1))) (wT a0 a1 a2 a3 cI ((fL_X2_shareFrom_17 T x1 x2 x3 k x4 v_parts).2)) A) args s 0 0 A) (F0 m 17 ls []) := by
  obtain ⟨hx, hb, hret, hml, hts, hown, hlocks, hE, hA⟩ := id B
  have hK := hE.1
  intro k
  induction k with
  | zero =>
    intro x4 v_parts h0 hk
    exact absurd hk (Nat.not_lt_zero _)
  | succ k ih =>
    intro x4 v_parts h0 hk H locs hP hD hS ls hl
    refine lv_iload hx hb dX2_shareFrom_17 (lv_at hl 4 rfl) ?_
    refine lv_aload_n hx hb dX2_shareFrom_19 rfl (lv_at hl 0 rfl) ?_
    refine va_get (D := D) (ci := 2) (v := .int (T_count T)) (C := RX2) (T := TX2) (N := 6) hx hb hts iw_X2_shareFrom_2 hown hK hP 0 rfl rfl 3 (by decide) (hts (.fieldLink RX2 30 "TownLisp$Town" "count" "I") (by decide +kernel)) (fun _ h9 => h9) rfl dX2_shareFrom_20 ?_
    refine lv_icmp_ge (tgt := 59) hx hb dX2_shareFrom_23 (by decide) (fun c_23 => ?_) (fun c_23 => ?_)
    · refine lv_aload_n hx hb dX2_shareFrom_59 rfl (lv_at hl 0 rfl) ?_
      refine lv_iload_n hx hb dX2_shareFrom_60 rfl (lv_at hl 2 rfl) ?_
      refine lv_iload_n hx hb dX2_shareFrom_61 rfl (lv_at hl 1 rfl) ?_
      refine kc_V (As := [.int x2, .int x1]) (rest := []) B (c_X2_handOut l D cI cO tF a0 a1 a2 a3 (T_parts' T v_parts) x2 x1 (hn) (hp)) (cwV 2 hts gX2_shareFrom_X2_handOut rfl rfl rfl (by decide +kernel) ⟨Nat.le_of_ble_eq_true rfl, Nat.le_of_ble_eq_true rfl⟩) hP hD hS [0, 1, 2, 3] rfl (by decide) (w' := wT a0 a1 a2 a3 cI (f_X2_handOut (T_parts' T v_parts) x2 x1)) rfl rfl 0 2 rfl rfl rfl rfl hl.1 rfl (Nat.le_of_ble_eq_true rfl) dX2_shareFrom_62 ⟨Nat.zero_le _, Nat.zero_le _⟩ (fun H locs hP hD hS => ?_)
      have hD : va_D A (wT a0 a1 a2 a3 cI (f_X2_handOut (T_parts' T v_parts) x2 x1)) := hD
      refine lv_iload_n hx hb dX2_shareFrom_65 rfl (lv_at hl 3 rfl) ?_
      refine lv_if_le (tgt := 75) hx hb dX2_shareFrom_66 (by decide) (fun c_66 => ?_) (fun c_66 => ?_)
      · refine lv_iconst (v := (0 : Int32)) hx hb dX2_shareFrom_75 (by decide) ?_
        have hF : fL_X2_shareFrom_17 T x1 x2 x3 (k + 1) x4 v_parts = ((0 : Int32), (f_X2_handOut (T_parts' T v_parts) x2 x1)) := by rw [fL_X2_shareFrom_17, if_pos c_23, if_pos c_66]
        rw [hF]
        exact kr_i B hP hS rfl rfl dX2_shareFrom_76
      · refine lv_iload_n hx hb dX2_shareFrom_69 rfl (lv_at hl 2 rfl) ?_
        refine lv_iload_n hx hb dX2_shareFrom_70 rfl (lv_at hl 3 rfl) ?_
        refine lv_idiv hx hb dX2_shareFrom_71 (nz_le c_66) ?_
        refine lv_goto (tgt := 76) hx hb dX2_shareFrom_72 (by decide) ?_
        have hF : fL_X2_shareFrom_17 T x1 x2 x3 (k + 1) x4 v_parts = ((x2 / x3), (f_X2_handOut (T_parts' T v_parts) x2 x1)) := by rw [fL_X2_shareFrom_17, if_pos c_23, if_neg c_66]
        rw [hF]
        exact kr_i B hP hS rfl rfl dX2_shareFrom_76
    · refine lv_aload_n hx hb dX2_shareFrom_26 rfl (lv_at hl 0 rfl) ?_
      refine va_get (D := D) (ci := 2) (v := .ref a2) (C := RX2) (T := TX2) (N := 6) hx hb hts iw_X2_shareFrom_2 hown hK hP 0 rfl rfl 1 (by decide) (hts (.fieldLink RX2 15 "TownLisp$Town" "parts" "[I") (by decide +kernel)) (fun _ h9 => h9) rfl dX2_shareFrom_27 ?_
      refine lv_iload hx hb dX2_shareFrom_30 (lv_at hl 4 rfl) ?_
      refine lv_aload_n hx hb dX2_shareFrom_32 rfl (lv_at hl 0 rfl) ?_
      refine lv_iload hx hb dX2_shareFrom_33 (lv_at hl 4 rfl) ?_
      refine kc_V (As := [.int x4]) (rest := [.int x4, .ref a2]) B (c_X2_isIn l D cI cO tF a0 a1 a2 a3 (T_parts' T v_parts) x4 ) (cwV 1 hts gX2_shareFrom_X2_isIn rfl rfl rfl (by decide +kernel) ⟨Nat.le_of_ble_eq_true rfl, Nat.le_of_ble_eq_true rfl⟩) hP hD hS [0, 1, 2, 3] rfl (by decide) (w' := wT a0 a1 a2 a3 cI (T_parts' T v_parts)) rfl rfl 0 2 rfl rfl rfl rfl hl.1 rfl (Nat.le_of_ble_eq_true rfl) dX2_shareFrom_35 ⟨Nat.zero_le _, Nat.zero_le _⟩ (fun H locs hP hD hS => ?_)
      have hD : va_D A (wT a0 a1 a2 a3 cI (T_parts' T v_parts)) := hD
      refine lv_if_eq (tgt := 45) hx hb dX2_shareFrom_38 (by decide) (fun c_38 => ?_) (fun c_38 => ?_)
      · refine lv_aload_n hx hb dX2_shareFrom_45 rfl (lv_at hl 0 rfl) ?_
        refine va_get (D := D) (ci := 2) (v := .ref a2) (C := RX2) (T := TX2) (N := 6) hx hb hts iw_X2_shareFrom_2 hown hK hP 0 rfl rfl 1 (by decide) (hts (.fieldLink RX2 15 "TownLisp$Town" "parts" "[I") (by decide +kernel)) (fun _ h9 => h9) rfl dX2_shareFrom_46 ?_
        refine lv_iload hx hb dX2_shareFrom_49 (lv_at hl 4 rfl) ?_
        refine va_iald hx hb hK hP 2 0 rfl rfl (lp_in h0 hn c_23) dX2_shareFrom_51 ?_
        refine va_iast hx hb hK hP hD hS 2 0 rfl rfl (lp_in h0 hn c_23) dX2_shareFrom_52 (fun H locs hP hD hS => ?_)
        have hP : va_P D vwCl (wT a0 a1 a2 a3 cI (T_parts' T (upd v_parts x4.toNatClampNeg (v_parts x4.toNatClampNeg)))) H := hP
        have hD : va_D A (wT a0 a1 a2 a3 cI (T_parts' T (upd v_parts x4.toNatClampNeg (v_parts x4.toNatClampNeg)))) := hD
        refine lv_iinc (v := (x4 + (1 : Int32))) (lv' := [(4, .int (x4 + (1 : Int32))), (0, .ref a0), (1, .int x1), (2, .int x2), (3, .int x3)]) hx hb dX2_shareFrom_53 hl (k := 4) rfl rfl (by decide) rfl (fun ls hl => ?_)
        refine lv_goto (tgt := 17) hx hb dX2_shareFrom_56 (by decide) ?_
        have hF : fL_X2_shareFrom_17 T x1 x2 x3 (k + 1) x4 v_parts = fL_X2_shareFrom_17 T x1 x2 x3 k (x4 + (1 : Int32)) (upd v_parts x4.toNatClampNeg (v_parts x4.toNatClampNeg)) := by rw [fL_X2_shareFrom_17, if_neg c_23, if_pos c_38]
        rw [hF]
        exact ih (x4 + (1 : Int32)) (upd v_parts x4.toNatClampNeg (v_parts x4.toNatClampNeg)) (lp_pre h0 c_23) (lp_mu h0 c_23 hk) _ _ hP hD hS ls (lv_sub hl [1, 2, 3, 4, 0] rfl)
      · refine lv_iconst (v := (0 : Int32)) hx hb dX2_shareFrom_41 (by decide) ?_
        refine lv_goto (tgt := 52) hx hb dX2_shareFrom_42 (by decide) ?_
        refine va_iast hx hb hK hP hD hS 2 0 rfl rfl (lp_in h0 hn c_23) dX2_shareFrom_52 (fun H locs hP hD hS => ?_)
        have hP : va_P D vwCl (wT a0 a1 a2 a3 cI (T_parts' T (upd v_parts x4.toNatClampNeg (0 : Int32)))) H := hP
        have hD : va_D A (wT a0 a1 a2 a3 cI (T_parts' T (upd v_parts x4.toNatClampNeg (0 : Int32)))) := hD
        refine lv_iinc (v := (x4 + (1 : Int32))) (lv' := [(4, .int (x4 + (1 : Int32))), (0, .ref a0), (1, .int x1), (2, .int x2), (3, .int x3)]) hx hb dX2_shareFrom_53 hl (k := 4) rfl rfl (by decide) rfl (fun ls hl => ?_)
        refine lv_goto (tgt := 17) hx hb dX2_shareFrom_56 (by decide) ?_
        have hF : fL_X2_shareFrom_17 T x1 x2 x3 (k + 1) x4 v_parts = fL_X2_shareFrom_17 T x1 x2 x3 k (x4 + (1 : Int32)) (upd v_parts x4.toNatClampNeg (0 : Int32)) := by rw [fL_X2_shareFrom_17, if_neg c_23, if_neg c_38]
        rw [hF]
        exact ih (x4 + (1 : Int32)) (upd v_parts x4.toNatClampNeg (0 : Int32)) (lp_pre h0 c_23) (lp_mu h0 c_23 hk) _ _ hP hD hS ls (lv_sub hl [1, 2, 3, 4, 0] rfl)
set_option maxHeartbeats 4000000 in
set_option maxRecDepth 100000 in
theorem c_X2_shareFrom (l : Launch) (D : va_G) (cI cO : ClassId) (tF : Nat) (a0 a1 a2 a3 : Nat) (T : TN) (x1 : Int32) (hn : (T_count T).toInt ≤ 6) (hp : vp_in x1 6) : Ct l yX2_shareFrom wsX2_shareFrom ({ frames := 3, cells := 0, slots := 0, locals := 68 }) D cI cO tF [.ref a0, .int x1] (wT a0 a1 a2 a3 cI T) (some (.int ((f_X2_shareFrom T x1).1))) (wT a0 a1 a2 a3 cI ((f_X2_shareFrom T x1).2)) := by
  refine Ct.of (cc := cX2_shareFrom) (maxL := 5) (ret := (some .int)) (own := RX2) (by decide) rfl rfl (Nat.le_of_ble_eq_true rfl) ?_
  intro p e s m args below meth c A ls B hP hD hS hl
  obtain ⟨hx, hb, hret, hml, hts, hown, hlocks, hE, hA⟩ := id B
  have hK := hE.1
  have hl : lv_has ls 5 [(0, .ref a0), (1, .int x1)] := hl
  refine lv_aload_n hx hb dX2_shareFrom_0 rfl (lv_at hl 0 rfl) ?_
  refine lv_aload_n hx hb dX2_shareFrom_1 rfl (lv_at hl 0 rfl) ?_
  refine va_get (D := D) (ci := 2) (v := .int (T_inside T)) (C := RX2) (T := TX2) (N := 6) hx hb hts iw_X2_shareFrom_2 hown hK hP 0 rfl rfl 4 (by decide) (hts (.fieldLink RX2 41 "TownLisp$Town" "inside" "I") (by decide +kernel)) (fun _ h9 => h9) rfl dX2_shareFrom_2 ?_
  refine kc_V (As := [.int (T_inside T)]) (rest := []) B (c_X2_partsOf l D cI cO tF a0 a1 a2 a3 T (T_inside T) (hn)) (cwV 1 hts gX2_shareFrom_X2_partsOf rfl rfl rfl (by decide +kernel) ⟨Nat.le_of_ble_eq_true rfl, Nat.le_of_ble_eq_true rfl⟩) hP hD hS [0, 1, 2, 3] rfl (by decide) (w' := wT a0 a1 a2 a3 cI T) rfl rfl 0 2 rfl rfl rfl rfl hl.1 rfl (Nat.le_of_ble_eq_true rfl) dX2_shareFrom_5 ⟨Nat.zero_le _, Nat.zero_le _⟩ (fun H locs hP hD hS => ?_)
  have hD : va_D A (wT a0 a1 a2 a3 cI T) := hD
  refine lv_istore_n (lv' := [(2, .int (f_X2_partsOf T (T_inside T))), (0, .ref a0), (1, .int x1)]) hx hb dX2_shareFrom_8 rfl hl (by decide) rfl (fun ls hl => ?_)
  refine lv_aload_n hx hb dX2_shareFrom_9 rfl (lv_at hl 1 rfl) ?_
  refine kc_V (As := []) (rest := []) B (c_X2_heads l D cI cO tF a0 a1 a2 a3 T ) (cwV 0 hts gX2_shareFrom_X2_heads rfl rfl rfl (by decide +kernel) ⟨Nat.le_of_ble_eq_true rfl, Nat.le_of_ble_eq_true rfl⟩) hP hD hS [0, 1, 2, 3] rfl (by decide) (w' := wT a0 a1 a2 a3 cI T) rfl rfl 0 2 rfl rfl rfl rfl hl.1 rfl (Nat.le_of_ble_eq_true rfl) dX2_shareFrom_10 ⟨Nat.zero_le _, Nat.zero_le _⟩ (fun H locs hP hD hS => ?_)
  have hD : va_D A (wT a0 a1 a2 a3 cI T) := hD
  refine lv_istore_n (lv' := [(3, .int (f_X2_heads T)), (2, .int (f_X2_partsOf T (T_inside T))), (0, .ref a0), (1, .int x1)]) hx hb dX2_shareFrom_13 rfl hl (by decide) rfl (fun ls hl => ?_)
  refine lv_iconst (v := (0 : Int32)) hx hb dX2_shareFrom_14 (by decide) ?_
  refine lv_istore (lv' := [(4, .int (0 : Int32)), (3, .int (f_X2_heads T)), (2, .int (f_X2_partsOf T (T_inside T))), (0, .ref a0), (1, .int x1)]) hx hb dX2_shareFrom_15 hl (by decide) rfl (fun ls hl => ?_)
  have hF : f_X2_shareFrom T x1 = fL_X2_shareFrom_17 T x1 (f_X2_partsOf T (T_inside T)) (f_X2_heads T) 7 (0 : Int32) (T_parts T) := by rw [f_X2_shareFrom]
  rw [hF]
  exact L_X2_shareFrom_17 l D cI cO tF a0 a1 a2 a3 T x1 (f_X2_partsOf T (T_inside T)) (f_X2_heads T) hn hp B  7 (0 : Int32) (T_parts T) (Int.le_refl _) (by rw [show (0 : Int32).toInt = 0 from rfl]; omega) _ _ hP hD hS ls (lv_sub hl [3, 4, 2, 1, 0] rfl)
def f_X2_goOut (T : TN) (x1 : Int32) : Int32 × TN := (((T_parts T) x1.toNatClampNeg), (f_X2_handOut (T_inside' (T_parts' T (upd (T_parts T) x1.toNatClampNeg (0 : Int32))) ((T_inside T) &&& (((1 : Int32) <<< (x1 &&& 31)) ^^^ (-1 : Int32)))) ((T_parts T) x1.toNatClampNeg) (0 : Int32)))
theorem iw_X2_goOut_2 : ∀ w ∈ wsX20, w ∈ wsX2_goOut := fun _ h => List.mem_cons_of_mem _ (List.mem_append_right _ h)
set_option maxHeartbeats 4000000 in
set_option maxRecDepth 100000 in
theorem c_X2_goOut (l : Launch) (D : va_G) (cI cO : ClassId) (tF : Nat) (a0 a1 a2 a3 : Nat) (T : TN) (x1 : Int32) (hn : (T_count T).toInt ≤ 6) (hp : vp_in x1 6) : Ct l yX2_goOut wsX2_goOut ({ frames := 3, cells := 0, slots := 0, locals := 68 }) D cI cO tF [.ref a0, .int x1] (wT a0 a1 a2 a3 cI T) (some (.int ((f_X2_goOut T x1).1))) (wT a0 a1 a2 a3 cI ((f_X2_goOut T x1).2)) := by
  refine Ct.of (cc := cX2_goOut) (maxL := 3) (ret := (some .int)) (own := RX2) (by decide) rfl rfl (Nat.le_of_ble_eq_true rfl) ?_
  intro p e s m args below meth c A ls B hP hD hS hl
  obtain ⟨hx, hb, hret, hml, hts, hown, hlocks, hE, hA⟩ := id B
  have hK := hE.1
  have hl : lv_has ls 3 [(0, .ref a0), (1, .int x1)] := hl
  refine lv_aload_n hx hb dX2_goOut_0 rfl (lv_at hl 0 rfl) ?_
  refine va_get (D := D) (ci := 2) (v := .ref a2) (C := RX2) (T := TX2) (N := 6) hx hb hts iw_X2_goOut_2 hown hK hP 0 rfl rfl 1 (by decide) (hts (.fieldLink RX2 15 "TownLisp$Town" "parts" "[I") (by decide +kernel)) (fun _ h9 => h9) rfl dX2_goOut_1 ?_
  refine lv_iload_n hx hb dX2_goOut_4 rfl (lv_at hl 1 rfl) ?_
  refine va_iald hx hb hK hP 2 0 rfl rfl (hp) dX2_goOut_5 ?_
  refine lv_istore_n (lv' := [(2, .int ((T_parts T) x1.toNatClampNeg)), (0, .ref a0), (1, .int x1)]) hx hb dX2_goOut_6 rfl hl (by decide) rfl (fun ls hl => ?_)
  refine lv_aload_n hx hb dX2_goOut_7 rfl (lv_at hl 1 rfl) ?_
  refine va_get (D := D) (ci := 2) (v := .ref a2) (C := RX2) (T := TX2) (N := 6) hx hb hts iw_X2_goOut_2 hown hK hP 0 rfl rfl 1 (by decide) (hts (.fieldLink RX2 15 "TownLisp$Town" "parts" "[I") (by decide +kernel)) (fun _ h9 => h9) rfl dX2_goOut_8 ?_
  refine lv_iload_n hx hb dX2_goOut_11 rfl (lv_at hl 2 rfl) ?_
  refine lv_iconst (v := (0 : Int32)) hx hb dX2_goOut_12 (by decide) ?_
  refine va_iast hx hb hK hP hD hS 2 0 rfl rfl (hp) dX2_goOut_13 (fun H locs hP hD hS => ?_)
  have hP : va_P D vwCl (wT a0 a1 a2 a3 cI (T_parts' T (upd (T_parts T) x1.toNatClampNeg (0 : Int32)))) H := hP
  have hD : va_D A (wT a0 a1 a2 a3 cI (T_parts' T (upd (T_parts T) x1.toNatClampNeg (0 : Int32)))) := hD
  refine lv_aload_n hx hb dX2_goOut_14 rfl (lv_at hl 1 rfl) ?_
  refine lv_dup hx hb dX2_goOut_15 rfl ?_
  refine va_get (D := D) (ci := 2) (v := .int (T_inside T)) (C := RX2) (T := TX2) (N := 6) hx hb hts iw_X2_goOut_2 hown hK hP 0 rfl rfl 4 (by decide) (hts (.fieldLink RX2 41 "TownLisp$Town" "inside" "I") (by decide +kernel)) (fun _ h9 => h9) rfl dX2_goOut_16 ?_
  refine lv_iconst (v := (1 : Int32)) hx hb dX2_goOut_19 (by decide) ?_
  refine lv_iload_n hx hb dX2_goOut_20 rfl (lv_at hl 2 rfl) ?_
  refine lv_ishl hx hb dX2_goOut_21 ?_
  refine lv_iconst (v := (-1 : Int32)) hx hb dX2_goOut_22 (by decide) ?_
  refine lv_ixor hx hb dX2_goOut_23 ?_
  refine lv_iand hx hb dX2_goOut_24 ?_
  refine va_put (D := D) (ci := 2) (v := .int ((T_inside T) &&& (((1 : Int32) <<< (x1 &&& 31)) ^^^ (-1 : Int32)))) (ty := .int) (C := RX2) (T := TX2) (N := 6) hx hb hts iw_X2_goOut_2 tyX2 tyX2_ok nmX2 hown hK hP hD hS 0 rfl rfl 4 (by decide) (hts (.fieldLink RX2 41 "TownLisp$Town" "inside" "I") (by decide +kernel)) (fun _ h9 => h9) rfl (by decide +kernel) rfl rfl (Nat.le_of_ble_eq_true rfl) dX2_goOut_25 (fun H locs hP hD hS => ?_)
  have hP : va_P D vwCl (wT a0 a1 a2 a3 cI (T_inside' (T_parts' T (upd (T_parts T) x1.toNatClampNeg (0 : Int32))) ((T_inside T) &&& (((1 : Int32) <<< (x1 &&& 31)) ^^^ (-1 : Int32))))) H := hP
  have hD : va_D A (wT a0 a1 a2 a3 cI (T_inside' (T_parts' T (upd (T_parts T) x1.toNatClampNeg (0 : Int32))) ((T_inside T) &&& (((1 : Int32) <<< (x1 &&& 31)) ^^^ (-1 : Int32))))) := hD
  refine lv_aload_n hx hb dX2_goOut_28 rfl (lv_at hl 1 rfl) ?_
  refine lv_iload_n hx hb dX2_goOut_29 rfl (lv_at hl 0 rfl) ?_
  refine lv_iconst (v := (0 : Int32)) hx hb dX2_goOut_30 (by decide) ?_
  refine kc_V (As := [.int ((T_parts T) x1.toNatClampNeg), .int (0 : Int32)]) (rest := []) B (c_X2_handOut l D cI cO tF a0 a1 a2 a3 (T_inside' (T_parts' T (upd (T_parts T) x1.toNatClampNeg (0 : Int32))) ((T_inside T) &&& (((1 : Int32) <<< (x1 &&& 31)) ^^^ (-1 : Int32)))) ((T_parts T) x1.toNatClampNeg) (0 : Int32) (hn) (in0)) (cwV 2 hts gX2_goOut_X2_handOut rfl rfl rfl (by decide +kernel) ⟨Nat.le_of_ble_eq_true rfl, Nat.le_of_ble_eq_true rfl⟩) hP hD hS [0, 1, 2, 3] rfl (by decide) (w' := wT a0 a1 a2 a3 cI (f_X2_handOut (T_inside' (T_parts' T (upd (T_parts T) x1.toNatClampNeg (0 : Int32))) ((T_inside T) &&& (((1 : Int32) <<< (x1 &&& 31)) ^^^ (-1 : Int32)))) ((T_parts T) x1.toNatClampNeg) (0 : Int32))) rfl rfl 0 2 rfl rfl rfl rfl hl.1 rfl (Nat.le_of_ble_eq_true rfl) dX2_goOut_31 ⟨Nat.zero_le _, Nat.zero_le _⟩ (fun H locs hP hD hS => ?_)
  have hD : va_D A (wT a0 a1 a2 a3 cI (f_X2_handOut (T_inside' (T_parts' T (upd (T_parts T) x1.toNatClampNeg (0 : Int32))) ((T_inside T) &&& (((1 : Int32) <<< (x1 &&& 31)) ^^^ (-1 : Int32)))) ((T_parts T) x1.toNatClampNeg) (0 : Int32))) := hD
  refine lv_iload_n hx hb dX2_goOut_34 rfl (lv_at hl 0 rfl) ?_
  have hF : f_X2_goOut T x1 = (((T_parts T) x1.toNatClampNeg), (f_X2_handOut (T_inside' (T_parts' T (upd (T_parts T) x1.toNatClampNeg (0 : Int32))) ((T_inside T) &&& (((1 : Int32) <<< (x1 &&& 31)) ^^^ (-1 : Int32)))) ((T_parts T) x1.toNatClampNeg) (0 : Int32))) := by rw [f_X2_goOut]
  rw [hF]
  exact kr_i B hP hS rfl rfl dX2_goOut_35
def fL_X2_giveTo_4 (T : TN) (x1 : Int32) : Nat → Int32 → Int32 → (Nat → Int32) → Int32 × TN
  | 0, _, _, v_parts => (0, (T_parts' T v_parts))
  | k + 1, x2, x3, v_parts => (if (T_count T) ≤ x3 then (x2, (T_parts' T (upd v_parts x1.toNatClampNeg ((v_parts x1.toNatClampNeg) + x2)))) else (if x3 = x1 then fL_X2_giveTo_4 T x1 k x2 (x3 + (1 : Int32)) v_parts else (if (f_X2_isIn (T_parts' T v_parts) x3) = 0 then fL_X2_giveTo_4 T x1 k x2 (x3 + (1 : Int32)) v_parts else (if (v_parts x3.toNatClampNeg) ≤ 0 then fL_X2_giveTo_4 T x1 k x2 (x3 + (1 : Int32)) v_parts else fL_X2_giveTo_4 T x1 k (x2 + (1 : Int32)) (x3 + (1 : Int32)) (upd v_parts x3.toNatClampNeg ((v_parts x3.toNatClampNeg) - (1 : Int32)))))))
def f_X2_giveTo (T : TN) (x1 : Int32) : Int32 × TN := fL_X2_giveTo_4 T x1 7 (0 : Int32) (0 : Int32) (T_parts T)
theorem iw_X2_giveTo_2 : ∀ w ∈ wsX20, w ∈ wsX2_giveTo := fun _ h => List.mem_cons_of_mem _ (List.mem_append_right _ h)
set_option maxHeartbeats 4000000 in
set_option maxRecDepth 100000 in
theorem L_X2_giveTo_4 {p : Program} (l : Launch) {e : Env} {s : State} {m : MethodId} {args : Array Value} {below : List Frame} {meth : Method} {c : Code} {A : Nat → Prop} (D : va_G) (cI cO : ClassId) (tF : Nat) (a0 a1 a2 a3 : Nat) (T : TN) (x1 : Int32) (hn : (T_count T).toInt ≤ 6) (hp : vp_in x1 6) (B : Bx p s m args meth c cX2_giveTo 4 (some .int) wsX2_giveTo RX2 D cI cO tF A) : ∀ (k : Nat) (x2 : Int32) (x3 : Int32) (v_parts : (Nat → Int32)), (0 ≤ x3.toInt) → (((T_count T).toInt - x3.toInt).toNat < k) → ∀ (H : Heap) (locs : List Loc), va_P D vwCl (wT a0 a1 a2 a3 cI (T_parts' T v_parts)) H → va_D A (wT a0 a1 a2 a3 cI (T_parts' T v_parts)) → va_S A s.heap H locs → ∀ ls : Array Slot, lv_has ls 4 [(0, .ref a0), (1, .int x1), (2, .int x2), (3, .int x3)] → W p l e ({ frames := 2, cells := 0, slots := 0, locals := 42 }) s m args below meth c H locs 0 0 (MQ below (Qp D (some (.int ((fL_X2_giveTo_4 T x1 k x2 x3 v_parts).1))) (wT a0 a1 a2 a3 cI ((fL_X2_giveTo_4 T x1 k x2 x3 v_parts).2)) A) args s 0 0 A) (F0 m 4 ls []) := by
  obtain ⟨hx, hb, hret, hml, hts, hown, hlocks, hE, hA⟩ := id B
  have hK := hE.1
  intro k
  induction k with
  | zero =>
    intro x2 x3 v_parts h0 hk
    exact absurd hk (Nat.not_lt_zero _)
  | succ k ih =>
    intro x2 x3 v_parts h0 hk H locs hP hD hS ls hl
    refine lv_iload_n hx hb dX2_giveTo_4 rfl (lv_at hl 3 rfl) ?_
    refine lv_aload_n hx hb dX2_giveTo_5 rfl (lv_at hl 0 rfl) ?_
    refine va_get (D := D) (ci := 2) (v := .int (T_count T)) (C := RX2) (T := TX2) (N := 6) hx hb hts iw_X2_giveTo_2 hown hK hP 0 rfl rfl 3 (by decide) (hts (.fieldLink RX2 30 "TownLisp$Town" "count" "I") (by decide +kernel)) (fun _ h9 => h9) rfl dX2_giveTo_6 ?_
    refine lv_icmp_ge (tgt := 53) hx hb dX2_giveTo_9 (by decide) (fun c_9 => ?_) (fun c_9 => ?_)
    · refine lv_aload_n hx hb dX2_giveTo_53 rfl (lv_at hl 0 rfl) ?_
      refine va_get (D := D) (ci := 2) (v := .ref a2) (C := RX2) (T := TX2) (N := 6) hx hb hts iw_X2_giveTo_2 hown hK hP 0 rfl rfl 1 (by decide) (hts (.fieldLink RX2 15 "TownLisp$Town" "parts" "[I") (by decide +kernel)) (fun _ h9 => h9) rfl dX2_giveTo_54 ?_
      refine lv_iload_n hx hb dX2_giveTo_57 rfl (lv_at hl 1 rfl) ?_
      refine lv_dup2_11 hx hb dX2_giveTo_58 rfl rfl ?_
      refine va_iald hx hb hK hP 2 0 rfl rfl (hp) dX2_giveTo_59 ?_
      refine lv_iload_n hx hb dX2_giveTo_60 rfl (lv_at hl 2 rfl) ?_
      refine lv_iadd hx hb dX2_giveTo_61 ?_
      refine va_iast hx hb hK hP hD hS 2 0 rfl rfl (hp) dX2_giveTo_62 (fun H locs hP hD hS => ?_)
      have hP : va_P D vwCl (wT a0 a1 a2 a3 cI (T_parts' T (upd v_parts x1.toNatClampNeg ((v_parts x1.toNatClampNeg) + x2)))) H := hP
      have hD : va_D A (wT a0 a1 a2 a3 cI (T_parts' T (upd v_parts x1.toNatClampNeg ((v_parts x1.toNatClampNeg) + x2)))) := hD
      refine lv_iload_n hx hb dX2_giveTo_63 rfl (lv_at hl 2 rfl) ?_
      have hF : fL_X2_giveTo_4 T x1 (k + 1) x2 x3 v_parts = (x2, (T_parts' T (upd v_parts x1.toNatClampNeg ((v_parts x1.toNatClampNeg) + x2)))) := by rw [fL_X2_giveTo_4, if_pos c_9]
      rw [hF]
      exact kr_i B hP hS rfl rfl dX2_giveTo_64
    · refine lv_iload_n hx hb dX2_giveTo_12 rfl (lv_at hl 3 rfl) ?_
      refine lv_iload_n hx hb dX2_giveTo_13 rfl (lv_at hl 1 rfl) ?_
      refine lv_icmp_eq (tgt := 47) hx hb dX2_giveTo_14 (by decide) (fun c_14 => ?_) (fun c_14 => ?_)
      · refine lv_iinc (v := (x3 + (1 : Int32))) (lv' := [(3, .int (x3 + (1 : Int32))), (0, .ref a0), (1, .int x1), (2, .int x2)]) hx hb dX2_giveTo_47 hl (k := 3) rfl rfl (by decide) rfl (fun ls hl => ?_)
        refine lv_goto (tgt := 4) hx hb dX2_giveTo_50 (by decide) ?_
        have hF : fL_X2_giveTo_4 T x1 (k + 1) x2 x3 v_parts = fL_X2_giveTo_4 T x1 k x2 (x3 + (1 : Int32)) v_parts := by rw [fL_X2_giveTo_4, if_neg c_9, if_pos c_14]
        rw [hF]
        exact ih x2 (x3 + (1 : Int32)) v_parts (lp_pre h0 c_9) (lp_mu h0 c_9 hk) _ _ hP hD hS ls (lv_sub hl [1, 2, 3, 0] rfl)
      · refine lv_aload_n hx hb dX2_giveTo_17 rfl (lv_at hl 0 rfl) ?_
        refine lv_iload_n hx hb dX2_giveTo_18 rfl (lv_at hl 3 rfl) ?_
        refine kc_V (As := [.int x3]) (rest := []) B (c_X2_isIn l D cI cO tF a0 a1 a2 a3 (T_parts' T v_parts) x3 ) (cwV 1 hts gX2_giveTo_X2_isIn rfl rfl rfl (by decide +kernel) ⟨Nat.le_of_ble_eq_true rfl, Nat.le_of_ble_eq_true rfl⟩) hP hD hS [0, 1, 2, 3] rfl (by decide) (w' := wT a0 a1 a2 a3 cI (T_parts' T v_parts)) rfl rfl 0 2 rfl rfl rfl rfl hl.1 rfl (Nat.le_of_ble_eq_true rfl) dX2_giveTo_19 ⟨Nat.zero_le _, Nat.zero_le _⟩ (fun H locs hP hD hS => ?_)
        have hD : va_D A (wT a0 a1 a2 a3 cI (T_parts' T v_parts)) := hD
        refine lv_if_eq (tgt := 47) hx hb dX2_giveTo_22 (by decide) (fun c_22 => ?_) (fun c_22 => ?_)
        · refine lv_iinc (v := (x3 + (1 : Int32))) (lv' := [(3, .int (x3 + (1 : Int32))), (0, .ref a0), (1, .int x1), (2, .int x2)]) hx hb dX2_giveTo_47 hl (k := 3) rfl rfl (by decide) rfl (fun ls hl => ?_)
          refine lv_goto (tgt := 4) hx hb dX2_giveTo_50 (by decide) ?_
          have hF : fL_X2_giveTo_4 T x1 (k + 1) x2 x3 v_parts = fL_X2_giveTo_4 T x1 k x2 (x3 + (1 : Int32)) v_parts := by rw [fL_X2_giveTo_4, if_neg c_9, if_neg c_14, if_pos c_22]
          rw [hF]
          exact ih x2 (x3 + (1 : Int32)) v_parts (lp_pre h0 c_9) (lp_mu h0 c_9 hk) _ _ hP hD hS ls (lv_sub hl [1, 2, 3, 0] rfl)
        · refine lv_aload_n hx hb dX2_giveTo_25 rfl (lv_at hl 0 rfl) ?_
          refine va_get (D := D) (ci := 2) (v := .ref a2) (C := RX2) (T := TX2) (N := 6) hx hb hts iw_X2_giveTo_2 hown hK hP 0 rfl rfl 1 (by decide) (hts (.fieldLink RX2 15 "TownLisp$Town" "parts" "[I") (by decide +kernel)) (fun _ h9 => h9) rfl dX2_giveTo_26 ?_
          refine lv_iload_n hx hb dX2_giveTo_29 rfl (lv_at hl 3 rfl) ?_
          refine va_iald hx hb hK hP 2 0 rfl rfl (lp_in h0 hn c_9) dX2_giveTo_30 ?_
          refine lv_if_le (tgt := 47) hx hb dX2_giveTo_31 (by decide) (fun c_31 => ?_) (fun c_31 => ?_)
          · refine lv_iinc (v := (x3 + (1 : Int32))) (lv' := [(3, .int (x3 + (1 : Int32))), (0, .ref a0), (1, .int x1), (2, .int x2)]) hx hb dX2_giveTo_47 hl (k := 3) rfl rfl (by decide) rfl (fun ls hl => ?_)
            refine lv_goto (tgt := 4) hx hb dX2_giveTo_50 (by decide) ?_
            have hF : fL_X2_giveTo_4 T x1 (k + 1) x2 x3 v_parts = fL_X2_giveTo_4 T x1 k x2 (x3 + (1 : Int32)) v_parts := by rw [fL_X2_giveTo_4, if_neg c_9, if_neg c_14, if_neg c_22, if_pos c_31]
            rw [hF]
            exact ih x2 (x3 + (1 : Int32)) v_parts (lp_pre h0 c_9) (lp_mu h0 c_9 hk) _ _ hP hD hS ls (lv_sub hl [1, 2, 3, 0] rfl)
          · refine lv_aload_n hx hb dX2_giveTo_34 rfl (lv_at hl 0 rfl) ?_
            refine va_get (D := D) (ci := 2) (v := .ref a2) (C := RX2) (T := TX2) (N := 6) hx hb hts iw_X2_giveTo_2 hown hK hP 0 rfl rfl 1 (by decide) (hts (.fieldLink RX2 15 "TownLisp$Town" "parts" "[I") (by decide +kernel)) (fun _ h9 => h9) rfl dX2_giveTo_35 ?_
            refine lv_iload_n hx hb dX2_giveTo_38 rfl (lv_at hl 3 rfl) ?_
            refine lv_dup2_11 hx hb dX2_giveTo_39 rfl rfl ?_
            refine va_iald hx hb hK hP 2 0 rfl rfl (lp_in h0 hn c_9) dX2_giveTo_40 ?_
            refine lv_iconst (v := (1 : Int32)) hx hb dX2_giveTo_41 (by decide) ?_
            refine lv_isub hx hb dX2_giveTo_42 ?_
            refine va_iast hx hb hK hP hD hS 2 0 rfl rfl (lp_in h0 hn c_9) dX2_giveTo_43 (fun H locs hP hD hS => ?_)
            have hP : va_P D vwCl (wT a0 a1 a2 a3 cI (T_parts' T (upd v_parts x3.toNatClampNeg ((v_parts x3.toNatClampNeg) - (1 : Int32))))) H := hP
            have hD : va_D A (wT a0 a1 a2 a3 cI (T_parts' T (upd v_parts x3.toNatClampNeg ((v_parts x3.toNatClampNeg) - (1 : Int32))))) := hD
            refine lv_iinc (v := (x2 + (1 : Int32))) (lv' := [(2, .int (x2 + (1 : Int32))), (0, .ref a0), (1, .int x1), (3, .int x3)]) hx hb dX2_giveTo_44 hl (k := 2) rfl rfl (by decide) rfl (fun ls hl => ?_)
            refine lv_iinc (v := (x3 + (1 : Int32))) (lv' := [(3, .int (x3 + (1 : Int32))), (2, .int (x2 + (1 : Int32))), (0, .ref a0), (1, .int x1)]) hx hb dX2_giveTo_47 hl (k := 3) rfl rfl (by decide) rfl (fun ls hl => ?_)
            refine lv_goto (tgt := 4) hx hb dX2_giveTo_50 (by decide) ?_
            have hF : fL_X2_giveTo_4 T x1 (k + 1) x2 x3 v_parts = fL_X2_giveTo_4 T x1 k (x2 + (1 : Int32)) (x3 + (1 : Int32)) (upd v_parts x3.toNatClampNeg ((v_parts x3.toNatClampNeg) - (1 : Int32))) := by rw [fL_X2_giveTo_4, if_neg c_9, if_neg c_14, if_neg c_22, if_neg c_31]
            rw [hF]
            exact ih (x2 + (1 : Int32)) (x3 + (1 : Int32)) (upd v_parts x3.toNatClampNeg ((v_parts x3.toNatClampNeg) - (1 : Int32))) (lp_pre h0 c_9) (lp_mu h0 c_9 hk) _ _ hP hD hS ls (lv_sub hl [2, 3, 1, 0] rfl)
set_option maxHeartbeats 4000000 in
set_option maxRecDepth 100000 in
theorem c_X2_giveTo (l : Launch) (D : va_G) (cI cO : ClassId) (tF : Nat) (a0 a1 a2 a3 : Nat) (T : TN) (x1 : Int32) (hn : (T_count T).toInt ≤ 6) (hp : vp_in x1 6) : Ct l yX2_giveTo wsX2_giveTo ({ frames := 2, cells := 0, slots := 0, locals := 42 }) D cI cO tF [.ref a0, .int x1] (wT a0 a1 a2 a3 cI T) (some (.int ((f_X2_giveTo T x1).1))) (wT a0 a1 a2 a3 cI ((f_X2_giveTo T x1).2)) := by
  refine Ct.of (cc := cX2_giveTo) (maxL := 4) (ret := (some .int)) (own := RX2) (by decide) rfl rfl (Nat.le_of_ble_eq_true rfl) ?_
  intro p e s m args below meth c A ls B hP hD hS hl
  obtain ⟨hx, hb, hret, hml, hts, hown, hlocks, hE, hA⟩ := id B
  have hK := hE.1
  have hl : lv_has ls 4 [(0, .ref a0), (1, .int x1)] := hl
  refine lv_iconst (v := (0 : Int32)) hx hb dX2_giveTo_0 (by decide) ?_
  refine lv_istore_n (lv' := [(2, .int (0 : Int32)), (0, .ref a0), (1, .int x1)]) hx hb dX2_giveTo_1 rfl hl (by decide) rfl (fun ls hl => ?_)
  refine lv_iconst (v := (0 : Int32)) hx hb dX2_giveTo_2 (by decide) ?_
  refine lv_istore_n (lv' := [(3, .int (0 : Int32)), (2, .int (0 : Int32)), (0, .ref a0), (1, .int x1)]) hx hb dX2_giveTo_3 rfl hl (by decide) rfl (fun ls hl => ?_)
  have hF : f_X2_giveTo T x1 = fL_X2_giveTo_4 T x1 7 (0 : Int32) (0 : Int32) (T_parts T) := by rw [f_X2_giveTo]
  rw [hF]
  exact L_X2_giveTo_4 l D cI cO tF a0 a1 a2 a3 T x1 hn hp B  7 (0 : Int32) (0 : Int32) (T_parts T) (Int.le_refl _) (by rw [show (0 : Int32).toInt = 0 from rfl]; omega) _ _ hP hD hS ls (lv_sub hl [2, 3, 1, 0] rfl)
def f_X2_emptyTinFor (T : TN) (x1 : Int32) : Int32 × TN := ((T_tin T), (T_tin' (T_parts' T (upd (T_parts T) x1.toNatClampNeg (((T_parts T) x1.toNatClampNeg) + (T_tin T)))) (0 : Int32)))
theorem iw_X2_emptyTinFor_2 : ∀ w ∈ wsX20, w ∈ wsX2_emptyTinFor := fun _ h => List.mem_cons_of_mem _ (List.mem_append_right _ h)
set_option maxHeartbeats 4000000 in
set_option maxRecDepth 100000 in
theorem c_X2_emptyTinFor (l : Launch) (D : va_G) (cI cO : ClassId) (tF : Nat) (a0 a1 a2 a3 : Nat) (T : TN) (x1 : Int32) (hp : vp_in x1 6) : Ct l yX2_emptyTinFor wsX2_emptyTinFor ({ frames := 0, cells := 0, slots := 0, locals := 0 }) D cI cO tF [.ref a0, .int x1] (wT a0 a1 a2 a3 cI T) (some (.int ((f_X2_emptyTinFor T x1).1))) (wT a0 a1 a2 a3 cI ((f_X2_emptyTinFor T x1).2)) := by
  refine Ct.of (cc := cX2_emptyTinFor) (maxL := 3) (ret := (some .int)) (own := RX2) (by decide) rfl rfl (Nat.le_of_ble_eq_true rfl) ?_
  intro p e s m args below meth c A ls B hP hD hS hl
  obtain ⟨hx, hb, hret, hml, hts, hown, hlocks, hE, hA⟩ := id B
  have hK := hE.1
  have hl : lv_has ls 3 [(0, .ref a0), (1, .int x1)] := hl
  refine lv_aload_n hx hb dX2_emptyTinFor_0 rfl (lv_at hl 0 rfl) ?_
  refine va_get (D := D) (ci := 2) (v := .int (T_tin T)) (C := RX2) (T := TX2) (N := 6) hx hb hts iw_X2_emptyTinFor_2 hown hK hP 0 rfl rfl 5 (by decide) (hts (.fieldLink RX2 38 "TownLisp$Town" "tin" "I") (by decide +kernel)) (fun _ h9 => h9) rfl dX2_emptyTinFor_1 ?_
  refine lv_istore_n (lv' := [(2, .int (T_tin T)), (0, .ref a0), (1, .int x1)]) hx hb dX2_emptyTinFor_4 rfl hl (by decide) rfl (fun ls hl => ?_)
  refine lv_aload_n hx hb dX2_emptyTinFor_5 rfl (lv_at hl 1 rfl) ?_
  refine va_get (D := D) (ci := 2) (v := .ref a2) (C := RX2) (T := TX2) (N := 6) hx hb hts iw_X2_emptyTinFor_2 hown hK hP 0 rfl rfl 1 (by decide) (hts (.fieldLink RX2 15 "TownLisp$Town" "parts" "[I") (by decide +kernel)) (fun _ h9 => h9) rfl dX2_emptyTinFor_6 ?_
  refine lv_iload_n hx hb dX2_emptyTinFor_9 rfl (lv_at hl 2 rfl) ?_
  refine lv_dup2_11 hx hb dX2_emptyTinFor_10 rfl rfl ?_
  refine va_iald hx hb hK hP 2 0 rfl rfl (hp) dX2_emptyTinFor_11 ?_
  refine lv_iload_n hx hb dX2_emptyTinFor_12 rfl (lv_at hl 0 rfl) ?_
  refine lv_iadd hx hb dX2_emptyTinFor_13 ?_
  refine va_iast hx hb hK hP hD hS 2 0 rfl rfl (hp) dX2_emptyTinFor_14 (fun H locs hP hD hS => ?_)
  have hP : va_P D vwCl (wT a0 a1 a2 a3 cI (T_parts' T (upd (T_parts T) x1.toNatClampNeg (((T_parts T) x1.toNatClampNeg) + (T_tin T))))) H := hP
  have hD : va_D A (wT a0 a1 a2 a3 cI (T_parts' T (upd (T_parts T) x1.toNatClampNeg (((T_parts T) x1.toNatClampNeg) + (T_tin T))))) := hD
  refine lv_aload_n hx hb dX2_emptyTinFor_15 rfl (lv_at hl 1 rfl) ?_
  refine lv_iconst (v := (0 : Int32)) hx hb dX2_emptyTinFor_16 (by decide) ?_
  refine va_put (D := D) (ci := 2) (v := .int (0 : Int32)) (ty := .int) (C := RX2) (T := TX2) (N := 6) hx hb hts iw_X2_emptyTinFor_2 tyX2 tyX2_ok nmX2 hown hK hP hD hS 0 rfl rfl 5 (by decide) (hts (.fieldLink RX2 38 "TownLisp$Town" "tin" "I") (by decide +kernel)) (fun _ h9 => h9) rfl (by decide +kernel) rfl rfl (Nat.le_of_ble_eq_true rfl) dX2_emptyTinFor_17 (fun H locs hP hD hS => ?_)
  have hP : va_P D vwCl (wT a0 a1 a2 a3 cI (T_tin' (T_parts' T (upd (T_parts T) x1.toNatClampNeg (((T_parts T) x1.toNatClampNeg) + (T_tin T)))) (0 : Int32))) H := hP
  have hD : va_D A (wT a0 a1 a2 a3 cI (T_tin' (T_parts' T (upd (T_parts T) x1.toNatClampNeg (((T_parts T) x1.toNatClampNeg) + (T_tin T)))) (0 : Int32))) := hD
  refine lv_iload_n hx hb dX2_emptyTinFor_20 rfl (lv_at hl 0 rfl) ?_
  have hF : f_X2_emptyTinFor T x1 = ((T_tin T), (T_tin' (T_parts' T (upd (T_parts T) x1.toNatClampNeg (((T_parts T) x1.toNatClampNeg) + (T_tin T)))) (0 : Int32))) := by rw [f_X2_emptyTinFor]
  rw [hF]
  exact kr_i B hP hS rfl rfl dX2_emptyTinFor_21
def f_X2_acts (T : TN) (x1 : Int32) (x2 : Int32) : Int32 × TN := (if x2 = 0 then (if (T_inside T) = 0 then ((-3 : Int32), T) else (if x2 = (4 : Int32) then (if (T_tin T) = 0 then ((-3 : Int32), T) else (if x2 = (0 : Int32) then ((f_X2_shareFrom T x1).1, (f_X2_shareFrom T x1).2) else (if x2 = (1 : Int32) then ((f_X2_goOut T x1).1, (f_X2_goOut T x1).2) else (if x2 = (2 : Int32) then ((f_X2_heads (T_inside' T ((T_inside T) ||| ((1 : Int32) <<< (x1 &&& 31))))), (T_inside' T ((T_inside T) ||| ((1 : Int32) <<< (x1 &&& 31))))) else (if x2 = (3 : Int32) then ((f_X2_giveTo T x1).1, (f_X2_giveTo T x1).2) else ((f_X2_emptyTinFor T x1).1, (f_X2_emptyTinFor T x1).2)))))) else (if x2 = (0 : Int32) then ((f_X2_shareFrom T x1).1, (f_X2_shareFrom T x1).2) else (if x2 = (1 : Int32) then ((f_X2_goOut T x1).1, (f_X2_goOut T x1).2) else (if x2 = (2 : Int32) then ((f_X2_heads (T_inside' T ((T_inside T) ||| ((1 : Int32) <<< (x1 &&& 31))))), (T_inside' T ((T_inside T) ||| ((1 : Int32) <<< (x1 &&& 31))))) else (if x2 = (3 : Int32) then ((f_X2_giveTo T x1).1, (f_X2_giveTo T x1).2) else ((f_X2_emptyTinFor T x1).1, (f_X2_emptyTinFor T x1).2))))))) else (if x2 = (2 : Int32) then (if (f_X2_isIn T x1) = (0 : Int32) then (if x2 = (4 : Int32) then (if (T_tin T) = 0 then ((-3 : Int32), T) else (if x2 = (0 : Int32) then ((f_X2_shareFrom T x1).1, (f_X2_shareFrom T x1).2) else (if x2 = (1 : Int32) then ((f_X2_goOut T x1).1, (f_X2_goOut T x1).2) else (if x2 = (2 : Int32) then ((f_X2_heads (T_inside' T ((T_inside T) ||| ((1 : Int32) <<< (x1 &&& 31))))), (T_inside' T ((T_inside T) ||| ((1 : Int32) <<< (x1 &&& 31))))) else (if x2 = (3 : Int32) then ((f_X2_giveTo T x1).1, (f_X2_giveTo T x1).2) else ((f_X2_emptyTinFor T x1).1, (f_X2_emptyTinFor T x1).2)))))) else (if x2 = (0 : Int32) then ((f_X2_shareFrom T x1).1, (f_X2_shareFrom T x1).2) else (if x2 = (1 : Int32) then ((f_X2_goOut T x1).1, (f_X2_goOut T x1).2) else (if x2 = (2 : Int32) then ((f_X2_heads (T_inside' T ((T_inside T) ||| ((1 : Int32) <<< (x1 &&& 31))))), (T_inside' T ((T_inside T) ||| ((1 : Int32) <<< (x1 &&& 31))))) else (if x2 = (3 : Int32) then ((f_X2_giveTo T x1).1, (f_X2_giveTo T x1).2) else ((f_X2_emptyTinFor T x1).1, (f_X2_emptyTinFor T x1).2)))))) else ((-3 : Int32), T)) else (if (f_X2_isIn T x1) = (1 : Int32) then (if x2 = (4 : Int32) then (if (T_tin T) = 0 then ((-3 : Int32), T) else (if x2 = (0 : Int32) then ((f_X2_shareFrom T x1).1, (f_X2_shareFrom T x1).2) else (if x2 = (1 : Int32) then ((f_X2_goOut T x1).1, (f_X2_goOut T x1).2) else (if x2 = (2 : Int32) then ((f_X2_heads (T_inside' T ((T_inside T) ||| ((1 : Int32) <<< (x1 &&& 31))))), (T_inside' T ((T_inside T) ||| ((1 : Int32) <<< (x1 &&& 31))))) else (if x2 = (3 : Int32) then ((f_X2_giveTo T x1).1, (f_X2_giveTo T x1).2) else ((f_X2_emptyTinFor T x1).1, (f_X2_emptyTinFor T x1).2)))))) else (if x2 = (0 : Int32) then ((f_X2_shareFrom T x1).1, (f_X2_shareFrom T x1).2) else (if x2 = (1 : Int32) then ((f_X2_goOut T x1).1, (f_X2_goOut T x1).2) else (if x2 = (2 : Int32) then ((f_X2_heads (T_inside' T ((T_inside T) ||| ((1 : Int32) <<< (x1 &&& 31))))), (T_inside' T ((T_inside T) ||| ((1 : Int32) <<< (x1 &&& 31))))) else (if x2 = (3 : Int32) then ((f_X2_giveTo T x1).1, (f_X2_giveTo T x1).2) else ((f_X2_emptyTinFor T x1).1, (f_X2_emptyTinFor T x1).2)))))) else ((-3 : Int32), T))))
theorem iw_X2_acts_2 : ∀ w ∈ wsX20, w ∈ wsX2_acts := fun _ h => List.mem_cons_of_mem _ (List.mem_append_right _ h)
set_option maxHeartbeats 4000000 in
set_option maxRecDepth 100000 in
theorem c_X2_acts (l : Launch) (D : va_G) (cI cO : ClassId) (tF : Nat) (a0 a1 a2 a3 : Nat) (T : TN) (x1 : Int32) (x2 : Int32) (hn : (T_count T).toInt ≤ 6) (hp : vp_in x1 6) : Ct l yX2_acts wsX2_acts ({ frames := 4, cells := 0, slots := 0, locals := 92 }) D cI cO tF [.ref a0, .int x1, .int x2] (wT a0 a1 a2 a3 cI T) (some (.int ((f_X2_acts T x1 x2).1))) (wT a0 a1 a2 a3 cI ((f_X2_acts T x1 x2).2)) := by
  refine Ct.of (cc := cX2_acts) (maxL := 4) (ret := (some .int)) (own := RX2) (by decide) rfl rfl (Nat.le_of_ble_eq_true rfl) ?_
  intro p e s m args below meth c A ls B hP hD hS hl
  obtain ⟨hx, hb, hret, hml, hts, hown, hlocks, hE, hA⟩ := id B
  have hK := hE.1
  have hl : lv_has ls 4 [(0, .ref a0), (1, .int x1), (2, .int x2)] := hl
  refine lv_iload_n hx hb dX2_acts_0 rfl (lv_at hl 2 rfl) ?_
  refine lv_if_ne (tgt := 19) hx hb dX2_acts_1 (by decide) (fun c_1 => ?_) (fun c_1 => ?_)
  · refine lv_aload_n hx hb dX2_acts_19 rfl (lv_at hl 0 rfl) ?_
    refine lv_iload_n hx hb dX2_acts_20 rfl (lv_at hl 1 rfl) ?_
    refine kc_V (As := [.int x1]) (rest := []) B (c_X2_isIn l D cI cO tF a0 a1 a2 a3 T x1 ) (cwV 1 hts gX2_acts_X2_isIn rfl rfl rfl (by decide +kernel) ⟨Nat.le_of_ble_eq_true rfl, Nat.le_of_ble_eq_true rfl⟩) hP hD hS [0, 1, 2, 3] rfl (by decide) (w' := wT a0 a1 a2 a3 cI T) rfl rfl 0 2 rfl rfl rfl rfl hl.1 rfl (Nat.le_of_ble_eq_true rfl) dX2_acts_21 ⟨Nat.zero_le _, Nat.zero_le _⟩ (fun H locs hP hD hS => ?_)
    have hD : va_D A (wT a0 a1 a2 a3 cI T) := hD
    refine lv_iload_n hx hb dX2_acts_24 rfl (lv_at hl 2 rfl) ?_
    refine lv_iconst (v := (2 : Int32)) hx hb dX2_acts_25 (by decide) ?_
    refine lv_icmp_eq (tgt := 33) hx hb dX2_acts_26 (by decide) (fun c_26 => ?_) (fun c_26 => ?_)
    · refine lv_iconst (v := (0 : Int32)) hx hb dX2_acts_33 (by decide) ?_
      refine lv_icmp_ne (tgt := 41) hx hb dX2_acts_34 (by decide) (fun c_34 => ?_) (fun c_34 => ?_)
      · refine lv_iconst (v := (0 : Int32)) hx hb dX2_acts_41 (by decide) ?_
        refine lv_istore_n (lv' := [(3, .int (0 : Int32)), (0, .ref a0), (1, .int x1), (2, .int x2)]) hx hb dX2_acts_42 rfl hl (by decide) rfl (fun ls hl => ?_)
        refine lv_iload_n hx hb dX2_acts_43 rfl (lv_at hl 0 rfl) ?_
        refine lv_if_eq (tgt := 59) hx hb dX2_acts_44 (by decide) (fun _ => ?_) (fun h => absurd h (by decide))
        refine lv_bipush (v := (-3 : Int32)) hx hb dX2_acts_59 (by decide) ?_
        have hF : f_X2_acts T x1 x2 = ((-3 : Int32), T) := by rw [f_X2_acts, if_neg c_1, if_pos c_26, if_neg c_34]
        rw [hF]
        exact kr_i B hP hS rfl rfl dX2_acts_61
      · refine lv_iconst (v := (1 : Int32)) hx hb dX2_acts_37 (by decide) ?_
        refine lv_goto (tgt := 42) hx hb dX2_acts_38 (by decide) ?_
        refine lv_istore_n (lv' := [(3, .int (1 : Int32)), (0, .ref a0), (1, .int x1), (2, .int x2)]) hx hb dX2_acts_42 rfl hl (by decide) rfl (fun ls hl => ?_)
        refine lv_iload_n hx hb dX2_acts_43 rfl (lv_at hl 0 rfl) ?_
        refine lv_if_eq (tgt := 59) hx hb dX2_acts_44 (by decide) (fun h => absurd h (by decide)) (fun _ => ?_)
        refine lv_iload_n hx hb dX2_acts_47 rfl (lv_at hl 3 rfl) ?_
        refine lv_iconst (v := (4 : Int32)) hx hb dX2_acts_48 (by decide) ?_
        refine lv_icmp_ne (tgt := 62) hx hb dX2_acts_49 (by decide) (fun c_49 => ?_) (fun c_49 => ?_)
        · refine lv_iload_n hx hb dX2_acts_62 rfl (lv_at hl 3 rfl) ?_
          by_cases c_63_0 : x2 = (0 : Int32)
          · refine lv_tableIn (off := 29) (tgt := 92) hx hb dX2_acts_63 (by rw [c_63_0]; decide) (by rw [c_63_0]; decide) (by rw [c_63_0]; rfl) (by decide) ?_
            refine lv_aload_n hx hb dX2_acts_92 rfl (lv_at hl 1 rfl) ?_
            refine lv_iload_n hx hb dX2_acts_93 rfl (lv_at hl 2 rfl) ?_
            refine kc_V (As := [.int x1]) (rest := []) B (c_X2_shareFrom l D cI cO tF a0 a1 a2 a3 T x1 (hn) (hp)) (cwV 1 hts gX2_acts_X2_shareFrom rfl rfl rfl (by decide +kernel) ⟨Nat.le_of_ble_eq_true rfl, Nat.le_of_ble_eq_true rfl⟩) hP hD hS [0, 1, 2, 3] rfl (by decide) (w' := wT a0 a1 a2 a3 cI ((f_X2_shareFrom T x1).2)) rfl rfl 0 2 rfl rfl rfl rfl hl.1 rfl (Nat.le_of_ble_eq_true rfl) dX2_acts_94 ⟨Nat.zero_le _, Nat.zero_le _⟩ (fun H locs hP hD hS => ?_)
            have hD : va_D A (wT a0 a1 a2 a3 cI ((f_X2_shareFrom T x1).2)) := hD
            have hF : f_X2_acts T x1 x2 = ((f_X2_shareFrom T x1).1, (f_X2_shareFrom T x1).2) := by rw [f_X2_acts, if_neg c_1, if_pos c_26, if_pos c_34, if_neg c_49, if_pos c_63_0]
            rw [hF]
            exact kr_i B hP hS rfl rfl dX2_acts_97
          by_cases c_63_1 : x2 = (1 : Int32)
          · refine lv_tableIn (off := 35) (tgt := 98) hx hb dX2_acts_63 (by rw [c_63_1]; decide) (by rw [c_63_1]; decide) (by rw [c_63_1]; rfl) (by decide) ?_
            refine lv_aload_n hx hb dX2_acts_98 rfl (lv_at hl 1 rfl) ?_
            refine lv_iload_n hx hb dX2_acts_99 rfl (lv_at hl 2 rfl) ?_
            refine kc_V (As := [.int x1]) (rest := []) B (c_X2_goOut l D cI cO tF a0 a1 a2 a3 T x1 (hn) (hp)) (cwV 1 hts gX2_acts_X2_goOut rfl rfl rfl (by decide +kernel) ⟨Nat.le_of_ble_eq_true rfl, Nat.le_of_ble_eq_true rfl⟩) hP hD hS [0, 1, 2, 3] rfl (by decide) (w' := wT a0 a1 a2 a3 cI ((f_X2_goOut T x1).2)) rfl rfl 0 2 rfl rfl rfl rfl hl.1 rfl (Nat.le_of_ble_eq_true rfl) dX2_acts_100 ⟨Nat.zero_le _, Nat.zero_le _⟩ (fun H locs hP hD hS => ?_)
            have hD : va_D A (wT a0 a1 a2 a3 cI ((f_X2_goOut T x1).2)) := hD
            have hF : f_X2_acts T x1 x2 = ((f_X2_goOut T x1).1, (f_X2_goOut T x1).2) := by rw [f_X2_acts, if_neg c_1, if_pos c_26, if_pos c_34, if_neg c_49, if_neg c_63_0, if_pos c_63_1]
            rw [hF]
            exact kr_i B hP hS rfl rfl dX2_acts_103
          by_cases c_63_2 : x2 = (2 : Int32)
          · refine lv_tableIn (off := 41) (tgt := 104) hx hb dX2_acts_63 (by rw [c_63_2]; decide) (by rw [c_63_2]; decide) (by rw [c_63_2]; rfl) (by decide) ?_
            refine lv_aload_n hx hb dX2_acts_104 rfl (lv_at hl 1 rfl) ?_
            refine lv_dup hx hb dX2_acts_105 rfl ?_
            refine va_get (D := D) (ci := 2) (v := .int (T_inside T)) (C := RX2) (T := TX2) (N := 6) hx hb hts iw_X2_acts_2 hown hK hP 0 rfl rfl 4 (by decide) (hts (.fieldLink RX2 41 "TownLisp$Town" "inside" "I") (by decide +kernel)) (fun _ h9 => h9) rfl dX2_acts_106 ?_
            refine lv_iconst (v := (1 : Int32)) hx hb dX2_acts_109 (by decide) ?_
            refine lv_iload_n hx hb dX2_acts_110 rfl (lv_at hl 2 rfl) ?_
            refine lv_ishl hx hb dX2_acts_111 ?_
            refine lv_ior hx hb dX2_acts_112 ?_
            refine va_put (D := D) (ci := 2) (v := .int ((T_inside T) ||| ((1 : Int32) <<< (x1 &&& 31)))) (ty := .int) (C := RX2) (T := TX2) (N := 6) hx hb hts iw_X2_acts_2 tyX2 tyX2_ok nmX2 hown hK hP hD hS 0 rfl rfl 4 (by decide) (hts (.fieldLink RX2 41 "TownLisp$Town" "inside" "I") (by decide +kernel)) (fun _ h9 => h9) rfl (by decide +kernel) rfl rfl (Nat.le_of_ble_eq_true rfl) dX2_acts_113 (fun H locs hP hD hS => ?_)
            have hP : va_P D vwCl (wT a0 a1 a2 a3 cI (T_inside' T ((T_inside T) ||| ((1 : Int32) <<< (x1 &&& 31))))) H := hP
            have hD : va_D A (wT a0 a1 a2 a3 cI (T_inside' T ((T_inside T) ||| ((1 : Int32) <<< (x1 &&& 31))))) := hD
            refine lv_aload_n hx hb dX2_acts_116 rfl (lv_at hl 1 rfl) ?_
            refine kc_V (As := []) (rest := []) B (c_X2_heads l D cI cO tF a0 a1 a2 a3 (T_inside' T ((T_inside T) ||| ((1 : Int32) <<< (x1 &&& 31)))) ) (cwV 0 hts gX2_acts_X2_heads rfl rfl rfl (by decide +kernel) ⟨Nat.le_of_ble_eq_true rfl, Nat.le_of_ble_eq_true rfl⟩) hP hD hS [0, 1, 2, 3] rfl (by decide) (w' := wT a0 a1 a2 a3 cI (T_inside' T ((T_inside T) ||| ((1 : Int32) <<< (x1 &&& 31))))) rfl rfl 0 2 rfl rfl rfl rfl hl.1 rfl (Nat.le_of_ble_eq_true rfl) dX2_acts_117 ⟨Nat.zero_le _, Nat.zero_le _⟩ (fun H locs hP hD hS => ?_)
            have hD : va_D A (wT a0 a1 a2 a3 cI (T_inside' T ((T_inside T) ||| ((1 : Int32) <<< (x1 &&& 31))))) := hD
            have hF : f_X2_acts T x1 x2 = ((f_X2_heads (T_inside' T ((T_inside T) ||| ((1 : Int32) <<< (x1 &&& 31))))), (T_inside' T ((T_inside T) ||| ((1 : Int32) <<< (x1 &&& 31))))) := by rw [f_X2_acts, if_neg c_1, if_pos c_26, if_pos c_34, if_neg c_49, if_neg c_63_0, if_neg c_63_1, if_pos c_63_2]
            rw [hF]
            exact kr_i B hP hS rfl rfl dX2_acts_120
          by_cases c_63_3 : x2 = (3 : Int32)
          · refine lv_tableIn (off := 58) (tgt := 121) hx hb dX2_acts_63 (by rw [c_63_3]; decide) (by rw [c_63_3]; decide) (by rw [c_63_3]; rfl) (by decide) ?_
            refine lv_aload_n hx hb dX2_acts_121 rfl (lv_at hl 1 rfl) ?_
            refine lv_iload_n hx hb dX2_acts_122 rfl (lv_at hl 2 rfl) ?_
            refine kc_V (As := [.int x1]) (rest := []) B (c_X2_giveTo l D cI cO tF a0 a1 a2 a3 T x1 (hn) (hp)) (cwV 1 hts gX2_acts_X2_giveTo rfl rfl rfl (by decide +kernel) ⟨Nat.le_of_ble_eq_true rfl, Nat.le_of_ble_eq_true rfl⟩) hP hD hS [0, 1, 2, 3] rfl (by decide) (w' := wT a0 a1 a2 a3 cI ((f_X2_giveTo T x1).2)) rfl rfl 0 2 rfl rfl rfl rfl hl.1 rfl (Nat.le_of_ble_eq_true rfl) dX2_acts_123 ⟨Nat.zero_le _, Nat.zero_le _⟩ (fun H locs hP hD hS => ?_)
            have hD : va_D A (wT a0 a1 a2 a3 cI ((f_X2_giveTo T x1).2)) := hD
            have hF : f_X2_acts T x1 x2 = ((f_X2_giveTo T x1).1, (f_X2_giveTo T x1).2) := by rw [f_X2_acts, if_neg c_1, if_pos c_26, if_pos c_34, if_neg c_49, if_neg c_63_0, if_neg c_63_1, if_neg c_63_2, if_pos c_63_3]
            rw [hF]
            exact kr_i B hP hS rfl rfl dX2_acts_126
          refine lv_tableOut (tgt := 127) hx hb dX2_acts_63 (sw_out4 c_63_0 c_63_1 c_63_2 c_63_3) (by decide) ?_
          refine lv_aload_n hx hb dX2_acts_127 rfl (lv_at hl 1 rfl) ?_
          refine lv_iload_n hx hb dX2_acts_128 rfl (lv_at hl 2 rfl) ?_
          refine kc_V (As := [.int x1]) (rest := []) B (c_X2_emptyTinFor l D cI cO tF a0 a1 a2 a3 T x1 (hp)) (cwV 1 hts gX2_acts_X2_emptyTinFor rfl rfl rfl (by decide +kernel) ⟨Nat.le_of_ble_eq_true rfl, Nat.le_of_ble_eq_true rfl⟩) hP hD hS [0, 1, 2, 3] rfl (by decide) (w' := wT a0 a1 a2 a3 cI ((f_X2_emptyTinFor T x1).2)) rfl rfl 0 2 rfl rfl rfl rfl hl.1 rfl (Nat.le_of_ble_eq_true rfl) dX2_acts_129 ⟨Nat.zero_le _, Nat.zero_le _⟩ (fun H locs hP hD hS => ?_)
          have hD : va_D A (wT a0 a1 a2 a3 cI ((f_X2_emptyTinFor T x1).2)) := hD
          have hF : f_X2_acts T x1 x2 = ((f_X2_emptyTinFor T x1).1, (f_X2_emptyTinFor T x1).2) := by rw [f_X2_acts, if_neg c_1, if_pos c_26, if_pos c_34, if_neg c_49, if_neg c_63_0, if_neg c_63_1, if_neg c_63_2, if_neg c_63_3]
          rw [hF]
          exact kr_i B hP hS rfl rfl dX2_acts_132
        · refine lv_aload_n hx hb dX2_acts_52 rfl (lv_at hl 1 rfl) ?_
          refine va_get (D := D) (ci := 2) (v := .int (T_tin T)) (C := RX2) (T := TX2) (N := 6) hx hb hts iw_X2_acts_2 hown hK hP 0 rfl rfl 5 (by decide) (hts (.fieldLink RX2 38 "TownLisp$Town" "tin" "I") (by decide +kernel)) (fun _ h9 => h9) rfl dX2_acts_53 ?_
          refine lv_if_ne (tgt := 62) hx hb dX2_acts_56 (by decide) (fun c_56 => ?_) (fun c_56 => ?_)
          · refine lv_iload_n hx hb dX2_acts_62 rfl (lv_at hl 3 rfl) ?_
            by_cases c_63_0 : x2 = (0 : Int32)
            · refine lv_tableIn (off := 29) (tgt := 92) hx hb dX2_acts_63 (by rw [c_63_0]; decide) (by rw [c_63_0]; decide) (by rw [c_63_0]; rfl) (by decide) ?_
              refine lv_aload_n hx hb dX2_acts_92 rfl (lv_at hl 1 rfl) ?_
              refine lv_iload_n hx hb dX2_acts_93 rfl (lv_at hl 2 rfl) ?_
              refine kc_V (As := [.int x1]) (rest := []) B (c_X2_shareFrom l D cI cO tF a0 a1 a2 a3 T x1 (hn) (hp)) (cwV 1 hts gX2_acts_X2_shareFrom rfl rfl rfl (by decide +kernel) ⟨Nat.le_of_ble_eq_true rfl, Nat.le_of_ble_eq_true rfl⟩) hP hD hS [0, 1, 2, 3] rfl (by decide) (w' := wT a0 a1 a2 a3 cI ((f_X2_shareFrom T x1).2)) rfl rfl 0 2 rfl rfl rfl rfl hl.1 rfl (Nat.le_of_ble_eq_true rfl) dX2_acts_94 ⟨Nat.zero_le _, Nat.zero_le _⟩ (fun H locs hP hD hS => ?_)
              have hD : va_D A (wT a0 a1 a2 a3 cI ((f_X2_shareFrom T x1).2)) := hD
              have hF : f_X2_acts T x1 x2 = ((f_X2_shareFrom T x1).1, (f_X2_shareFrom T x1).2) := by rw [f_X2_acts, if_neg c_1, if_pos c_26, if_pos c_34, if_pos c_49, if_neg c_56, if_pos c_63_0]
              rw [hF]
              exact kr_i B hP hS rfl rfl dX2_acts_97
            by_cases c_63_1 : x2 = (1 : Int32)
            · refine lv_tableIn (off := 35) (tgt := 98) hx hb dX2_acts_63 (by rw [c_63_1]; decide) (by rw [c_63_1]; decide) (by rw [c_63_1]; rfl) (by decide) ?_
              refine lv_aload_n hx hb dX2_acts_98 rfl (lv_at hl 1 rfl) ?_
              refine lv_iload_n hx hb dX2_acts_99 rfl (lv_at hl 2 rfl) ?_
              refine kc_V (As := [.int x1]) (rest := []) B (c_X2_goOut l D cI cO tF a0 a1 a2 a3 T x1 (hn) (hp)) (cwV 1 hts gX2_acts_X2_goOut rfl rfl rfl (by decide +kernel) ⟨Nat.le_of_ble_eq_true rfl, Nat.le_of_ble_eq_true rfl⟩) hP hD hS [0, 1, 2, 3] rfl (by decide) (w' := wT a0 a1 a2 a3 cI ((f_X2_goOut T x1).2)) rfl rfl 0 2 rfl rfl rfl rfl hl.1 rfl (Nat.le_of_ble_eq_true rfl) dX2_acts_100 ⟨Nat.zero_le _, Nat.zero_le _⟩ (fun H locs hP hD hS => ?_)
              have hD : va_D A (wT a0 a1 a2 a3 cI ((f_X2_goOut T x1).2)) := hD
              have hF : f_X2_acts T x1 x2 = ((f_X2_goOut T x1).1, (f_X2_goOut T x1).2) := by rw [f_X2_acts, if_neg c_1, if_pos c_26, if_pos c_34, if_pos c_49, if_neg c_56, if_neg c_63_0, if_pos c_63_1]
              rw [hF]
              exact kr_i B hP hS rfl rfl dX2_acts_103
            by_cases c_63_2 : x2 = (2 : Int32)
            · refine lv_tableIn (off := 41) (tgt := 104) hx hb dX2_acts_63 (by rw [c_63_2]; decide) (by rw [c_63_2]; decide) (by rw [c_63_2]; rfl) (by decide) ?_
              refine lv_aload_n hx hb dX2_acts_104 rfl (lv_at hl 1 rfl) ?_
              refine lv_dup hx hb dX2_acts_105 rfl ?_
              refine va_get (D := D) (ci := 2) (v := .int (T_inside T)) (C := RX2) (T := TX2) (N := 6) hx hb hts iw_X2_acts_2 hown hK hP 0 rfl rfl 4 (by decide) (hts (.fieldLink RX2 41 "TownLisp$Town" "inside" "I") (by decide +kernel)) (fun _ h9 => h9) rfl dX2_acts_106 ?_
              refine lv_iconst (v := (1 : Int32)) hx hb dX2_acts_109 (by decide) ?_
              refine lv_iload_n hx hb dX2_acts_110 rfl (lv_at hl 2 rfl) ?_
              refine lv_ishl hx hb dX2_acts_111 ?_
              refine lv_ior hx hb dX2_acts_112 ?_
              refine va_put (D := D) (ci := 2) (v := .int ((T_inside T) ||| ((1 : Int32) <<< (x1 &&& 31)))) (ty := .int) (C := RX2) (T := TX2) (N := 6) hx hb hts iw_X2_acts_2 tyX2 tyX2_ok nmX2 hown hK hP hD hS 0 rfl rfl 4 (by decide) (hts (.fieldLink RX2 41 "TownLisp$Town" "inside" "I") (by decide +kernel)) (fun _ h9 => h9) rfl (by decide +kernel) rfl rfl (Nat.le_of_ble_eq_true rfl) dX2_acts_113 (fun H locs hP hD hS => ?_)
              have hP : va_P D vwCl (wT a0 a1 a2 a3 cI (T_inside' T ((T_inside T) ||| ((1 : Int32) <<< (x1 &&& 31))))) H := hP
              have hD : va_D A (wT a0 a1 a2 a3 cI (T_inside' T ((T_inside T) ||| ((1 : Int32) <<< (x1 &&& 31))))) := hD
              refine lv_aload_n hx hb dX2_acts_116 rfl (lv_at hl 1 rfl) ?_
              refine kc_V (As := []) (rest := []) B (c_X2_heads l D cI cO tF a0 a1 a2 a3 (T_inside' T ((T_inside T) ||| ((1 : Int32) <<< (x1 &&& 31)))) ) (cwV 0 hts gX2_acts_X2_heads rfl rfl rfl (by decide +kernel) ⟨Nat.le_of_ble_eq_true rfl, Nat.le_of_ble_eq_true rfl⟩) hP hD hS [0, 1, 2, 3] rfl (by decide) (w' := wT a0 a1 a2 a3 cI (T_inside' T ((T_inside T) ||| ((1 : Int32) <<< (x1 &&& 31))))) rfl rfl 0 2 rfl rfl rfl rfl hl.1 rfl (Nat.le_of_ble_eq_true rfl) dX2_acts_117 ⟨Nat.zero_le _, Nat.zero_le _⟩ (fun H locs hP hD hS => ?_)
              have hD : va_D A (wT a0 a1 a2 a3 cI (T_inside' T ((T_inside T) ||| ((1 : Int32) <<< (x1 &&& 31))))) := hD
              have hF : f_X2_acts T x1 x2 = ((f_X2_heads (T_inside' T ((T_inside T) ||| ((1 : Int32) <<< (x1 &&& 31))))), (T_inside' T ((T_inside T) ||| ((1 : Int32) <<< (x1 &&& 31))))) := by rw [f_X2_acts, if_neg c_1, if_pos c_26, if_pos c_34, if_pos c_49, if_neg c_56, if_neg c_63_0, if_neg c_63_1, if_pos c_63_2]
              rw [hF]
              exact kr_i B hP hS rfl rfl dX2_acts_120
            by_cases c_63_3 : x2 = (3 : Int32)
            · refine lv_tableIn (off := 58) (tgt := 121) hx hb dX2_acts_63 (by rw [c_63_3]; decide) (by rw [c_63_3]; decide) (by rw [c_63_3]; rfl) (by decide) ?_
              refine lv_aload_n hx hb dX2_acts_121 rfl (lv_at hl 1 rfl) ?_
              refine lv_iload_n hx hb dX2_acts_122 rfl (lv_at hl 2 rfl) ?_
              refine kc_V (As := [.int x1]) (rest := []) B (c_X2_giveTo l D cI cO tF a0 a1 a2 a3 T x1 (hn) (hp)) (cwV 1 hts gX2_acts_X2_giveTo rfl rfl rfl (by decide +kernel) ⟨Nat.le_of_ble_eq_true rfl, Nat.le_of_ble_eq_true rfl⟩) hP hD hS [0, 1, 2, 3] rfl (by decide) (w' := wT a0 a1 a2 a3 cI ((f_X2_giveTo T x1).2)) rfl rfl 0 2 rfl rfl rfl rfl hl.1 rfl (Nat.le_of_ble_eq_true rfl) dX2_acts_123 ⟨Nat.zero_le _, Nat.zero_le _⟩ (fun H locs hP hD hS => ?_)
              have hD : va_D A (wT a0 a1 a2 a3 cI ((f_X2_giveTo T x1).2)) := hD
              have hF : f_X2_acts T x1 x2 = ((f_X2_giveTo T x1).1, (f_X2_giveTo T x1).2) := by rw [f_X2_acts, if_neg c_1, if_pos c_26, if_pos c_34, if_pos c_49, if_neg c_56, if_neg c_63_0, if_neg c_63_1, if_neg c_63_2, if_pos c_63_3]
              rw [hF]
              exact kr_i B hP hS rfl rfl dX2_acts_126
            refine lv_tableOut (tgt := 127) hx hb dX2_acts_63 (sw_out4 c_63_0 c_63_1 c_63_2 c_63_3) (by decide) ?_
            refine lv_aload_n hx hb dX2_acts_127 rfl (lv_at hl 1 rfl) ?_
            refine lv_iload_n hx hb dX2_acts_128 rfl (lv_at hl 2 rfl) ?_
            refine kc_V (As := [.int x1]) (rest := []) B (c_X2_emptyTinFor l D cI cO tF a0 a1 a2 a3 T x1 (hp)) (cwV 1 hts gX2_acts_X2_emptyTinFor rfl rfl rfl (by decide +kernel) ⟨Nat.le_of_ble_eq_true rfl, Nat.le_of_ble_eq_true rfl⟩) hP hD hS [0, 1, 2, 3] rfl (by decide) (w' := wT a0 a1 a2 a3 cI ((f_X2_emptyTinFor T x1).2)) rfl rfl 0 2 rfl rfl rfl rfl hl.1 rfl (Nat.le_of_ble_eq_true rfl) dX2_acts_129 ⟨Nat.zero_le _, Nat.zero_le _⟩ (fun H locs hP hD hS => ?_)
            have hD : va_D A (wT a0 a1 a2 a3 cI ((f_X2_emptyTinFor T x1).2)) := hD
            have hF : f_X2_acts T x1 x2 = ((f_X2_emptyTinFor T x1).1, (f_X2_emptyTinFor T x1).2) := by rw [f_X2_acts, if_neg c_1, if_pos c_26, if_pos c_34, if_pos c_49, if_neg c_56, if_neg c_63_0, if_neg c_63_1, if_neg c_63_2, if_neg c_63_3]
            rw [hF]
            exact kr_i B hP hS rfl rfl dX2_acts_132
          · refine lv_bipush (v := (-3 : Int32)) hx hb dX2_acts_59 (by decide) ?_
            have hF : f_X2_acts T x1 x2 = ((-3 : Int32), T) := by rw [f_X2_acts, if_neg c_1, if_pos c_26, if_pos c_34, if_pos c_49, if_pos c_56]
            rw [hF]
            exact kr_i B hP hS rfl rfl dX2_acts_61
    · refine lv_iconst (v := (1 : Int32)) hx hb dX2_acts_29 (by decide) ?_
      refine lv_goto (tgt := 34) hx hb dX2_acts_30 (by decide) ?_
      refine lv_icmp_ne (tgt := 41) hx hb dX2_acts_34 (by decide) (fun c_34 => ?_) (fun c_34 => ?_)
      · refine lv_iconst (v := (0 : Int32)) hx hb dX2_acts_41 (by decide) ?_
        refine lv_istore_n (lv' := [(3, .int (0 : Int32)), (0, .ref a0), (1, .int x1), (2, .int x2)]) hx hb dX2_acts_42 rfl hl (by decide) rfl (fun ls hl => ?_)
        refine lv_iload_n hx hb dX2_acts_43 rfl (lv_at hl 0 rfl) ?_
        refine lv_if_eq (tgt := 59) hx hb dX2_acts_44 (by decide) (fun _ => ?_) (fun h => absurd h (by decide))
        refine lv_bipush (v := (-3 : Int32)) hx hb dX2_acts_59 (by decide) ?_
        have hF : f_X2_acts T x1 x2 = ((-3 : Int32), T) := by rw [f_X2_acts, if_neg c_1, if_neg c_26, if_neg c_34]
        rw [hF]
        exact kr_i B hP hS rfl rfl dX2_acts_61
      · refine lv_iconst (v := (1 : Int32)) hx hb dX2_acts_37 (by decide) ?_
        refine lv_goto (tgt := 42) hx hb dX2_acts_38 (by decide) ?_
        refine lv_istore_n (lv' := [(3, .int (1 : Int32)), (0, .ref a0), (1, .int x1), (2, .int x2)]) hx hb dX2_acts_42 rfl hl (by decide) rfl (fun ls hl => ?_)
        refine lv_iload_n hx hb dX2_acts_43 rfl (lv_at hl 0 rfl) ?_
        refine lv_if_eq (tgt := 59) hx hb dX2_acts_44 (by decide) (fun h => absurd h (by decide)) (fun _ => ?_)
        refine lv_iload_n hx hb dX2_acts_47 rfl (lv_at hl 3 rfl) ?_
        refine lv_iconst (v := (4 : Int32)) hx hb dX2_acts_48 (by decide) ?_
        refine lv_icmp_ne (tgt := 62) hx hb dX2_acts_49 (by decide) (fun c_49 => ?_) (fun c_49 => ?_)
        · refine lv_iload_n hx hb dX2_acts_62 rfl (lv_at hl 3 rfl) ?_
          by_cases c_63_0 : x2 = (0 : Int32)
          · refine lv_tableIn (off := 29) (tgt := 92) hx hb dX2_acts_63 (by rw [c_63_0]; decide) (by rw [c_63_0]; decide) (by rw [c_63_0]; rfl) (by decide) ?_
            refine lv_aload_n hx hb dX2_acts_92 rfl (lv_at hl 1 rfl) ?_
            refine lv_iload_n hx hb dX2_acts_93 rfl (lv_at hl 2 rfl) ?_
            refine kc_V (As := [.int x1]) (rest := []) B (c_X2_shareFrom l D cI cO tF a0 a1 a2 a3 T x1 (hn) (hp)) (cwV 1 hts gX2_acts_X2_shareFrom rfl rfl rfl (by decide +kernel) ⟨Nat.le_of_ble_eq_true rfl, Nat.le_of_ble_eq_true rfl⟩) hP hD hS [0, 1, 2, 3] rfl (by decide) (w' := wT a0 a1 a2 a3 cI ((f_X2_shareFrom T x1).2)) rfl rfl 0 2 rfl rfl rfl rfl hl.1 rfl (Nat.le_of_ble_eq_true rfl) dX2_acts_94 ⟨Nat.zero_le _, Nat.zero_le _⟩ (fun H locs hP hD hS => ?_)
            have hD : va_D A (wT a0 a1 a2 a3 cI ((f_X2_shareFrom T x1).2)) := hD
            have hF : f_X2_acts T x1 x2 = ((f_X2_shareFrom T x1).1, (f_X2_shareFrom T x1).2) := by rw [f_X2_acts, if_neg c_1, if_neg c_26, if_pos c_34, if_neg c_49, if_pos c_63_0]
            rw [hF]
            exact kr_i B hP hS rfl rfl dX2_acts_97
          by_cases c_63_1 : x2 = (1 : Int32)
          · refine lv_tableIn (off := 35) (tgt := 98) hx hb dX2_acts_63 (by rw [c_63_1]; decide) (by rw [c_63_1]; decide) (by rw [c_63_1]; rfl) (by decide) ?_
            refine lv_aload_n hx hb dX2_acts_98 rfl (lv_at hl 1 rfl) ?_
            refine lv_iload_n hx hb dX2_acts_99 rfl (lv_at hl 2 rfl) ?_
            refine kc_V (As := [.int x1]) (rest := []) B (c_X2_goOut l D cI cO tF a0 a1 a2 a3 T x1 (hn) (hp)) (cwV 1 hts gX2_acts_X2_goOut rfl rfl rfl (by decide +kernel) ⟨Nat.le_of_ble_eq_true rfl, Nat.le_of_ble_eq_true rfl⟩) hP hD hS [0, 1, 2, 3] rfl (by decide) (w' := wT a0 a1 a2 a3 cI ((f_X2_goOut T x1).2)) rfl rfl 0 2 rfl rfl rfl rfl hl.1 rfl (Nat.le_of_ble_eq_true rfl) dX2_acts_100 ⟨Nat.zero_le _, Nat.zero_le _⟩ (fun H locs hP hD hS => ?_)
            have hD : va_D A (wT a0 a1 a2 a3 cI ((f_X2_goOut T x1).2)) := hD
            have hF : f_X2_acts T x1 x2 = ((f_X2_goOut T x1).1, (f_X2_goOut T x1).2) := by rw [f_X2_acts, if_neg c_1, if_neg c_26, if_pos c_34, if_neg c_49, if_neg c_63_0, if_pos c_63_1]
            rw [hF]
            exact kr_i B hP hS rfl rfl dX2_acts_103
          by_cases c_63_2 : x2 = (2 : Int32)
          · refine lv_tableIn (off := 41) (tgt := 104) hx hb dX2_acts_63 (by rw [c_63_2]; decide) (by rw [c_63_2]; decide) (by rw [c_63_2]; rfl) (by decide) ?_
            refine lv_aload_n hx hb dX2_acts_104 rfl (lv_at hl 1 rfl) ?_
            refine lv_dup hx hb dX2_acts_105 rfl ?_
            refine va_get (D := D) (ci := 2) (v := .int (T_inside T)) (C := RX2) (T := TX2) (N := 6) hx hb hts iw_X2_acts_2 hown hK hP 0 rfl rfl 4 (by decide) (hts (.fieldLink RX2 41 "TownLisp$Town" "inside" "I") (by decide +kernel)) (fun _ h9 => h9) rfl dX2_acts_106 ?_
            refine lv_iconst (v := (1 : Int32)) hx hb dX2_acts_109 (by decide) ?_
            refine lv_iload_n hx hb dX2_acts_110 rfl (lv_at hl 2 rfl) ?_
            refine lv_ishl hx hb dX2_acts_111 ?_
            refine lv_ior hx hb dX2_acts_112 ?_
            refine va_put (D := D) (ci := 2) (v := .int ((T_inside T) ||| ((1 : Int32) <<< (x1 &&& 31)))) (ty := .int) (C := RX2) (T := TX2) (N := 6) hx hb hts iw_X2_acts_2 tyX2 tyX2_ok nmX2 hown hK hP hD hS 0 rfl rfl 4 (by decide) (hts (.fieldLink RX2 41 "TownLisp$Town" "inside" "I") (by decide +kernel)) (fun _ h9 => h9) rfl (by decide +kernel) rfl rfl (Nat.le_of_ble_eq_true rfl) dX2_acts_113 (fun H locs hP hD hS => ?_)
            have hP : va_P D vwCl (wT a0 a1 a2 a3 cI (T_inside' T ((T_inside T) ||| ((1 : Int32) <<< (x1 &&& 31))))) H := hP
            have hD : va_D A (wT a0 a1 a2 a3 cI (T_inside' T ((T_inside T) ||| ((1 : Int32) <<< (x1 &&& 31))))) := hD
            refine lv_aload_n hx hb dX2_acts_116 rfl (lv_at hl 1 rfl) ?_
            refine kc_V (As := []) (rest := []) B (c_X2_heads l D cI cO tF a0 a1 a2 a3 (T_inside' T ((T_inside T) ||| ((1 : Int32) <<< (x1 &&& 31)))) ) (cwV 0 hts gX2_acts_X2_heads rfl rfl rfl (by decide +kernel) ⟨Nat.le_of_ble_eq_true rfl, Nat.le_of_ble_eq_true rfl⟩) hP hD hS [0, 1, 2, 3] rfl (by decide) (w' := wT a0 a1 a2 a3 cI (T_inside' T ((T_inside T) ||| ((1 : Int32) <<< (x1 &&& 31))))) rfl rfl 0 2 rfl rfl rfl rfl hl.1 rfl (Nat.le_of_ble_eq_true rfl) dX2_acts_117 ⟨Nat.zero_le _, Nat.zero_le _⟩ (fun H locs hP hD hS => ?_)
            have hD : va_D A (wT a0 a1 a2 a3 cI (T_inside' T ((T_inside T) ||| ((1 : Int32) <<< (x1 &&& 31))))) := hD
            have hF : f_X2_acts T x1 x2 = ((f_X2_heads (T_inside' T ((T_inside T) ||| ((1 : Int32) <<< (x1 &&& 31))))), (T_inside' T ((T_inside T) ||| ((1 : Int32) <<< (x1 &&& 31))))) := by rw [f_X2_acts, if_neg c_1, if_neg c_26, if_pos c_34, if_neg c_49, if_neg c_63_0, if_neg c_63_1, if_pos c_63_2]
            rw [hF]
            exact kr_i B hP hS rfl rfl dX2_acts_120
          by_cases c_63_3 : x2 = (3 : Int32)
          · refine lv_tableIn (off := 58) (tgt := 121) hx hb dX2_acts_63 (by rw [c_63_3]; decide) (by rw [c_63_3]; decide) (by rw [c_63_3]; rfl) (by decide) ?_
            refine lv_aload_n hx hb dX2_acts_121 rfl (lv_at hl 1 rfl) ?_
            refine lv_iload_n hx hb dX2_acts_122 rfl (lv_at hl 2 rfl) ?_
            refine kc_V (As := [.int x1]) (rest := []) B (c_X2_giveTo l D cI cO tF a0 a1 a2 a3 T x1 (hn) (hp)) (cwV 1 hts gX2_acts_X2_giveTo rfl rfl rfl (by decide +kernel) ⟨Nat.le_of_ble_eq_true rfl, Nat.le_of_ble_eq_true rfl⟩) hP hD hS [0, 1, 2, 3] rfl (by decide) (w' := wT a0 a1 a2 a3 cI ((f_X2_giveTo T x1).2)) rfl rfl 0 2 rfl rfl rfl rfl hl.1 rfl (Nat.le_of_ble_eq_true rfl) dX2_acts_123 ⟨Nat.zero_le _, Nat.zero_le _⟩ (fun H locs hP hD hS => ?_)
            have hD : va_D A (wT a0 a1 a2 a3 cI ((f_X2_giveTo T x1).2)) := hD
            have hF : f_X2_acts T x1 x2 = ((f_X2_giveTo T x1).1, (f_X2_giveTo T x1).2) := by rw [f_X2_acts, if_neg c_1, if_neg c_26, if_pos c_34, if_neg c_49, if_neg c_63_0, if_neg c_63_1, if_neg c_63_2, if_pos c_63_3]
            rw [hF]
            exact kr_i B hP hS rfl rfl dX2_acts_126
          refine lv_tableOut (tgt := 127) hx hb dX2_acts_63 (sw_out4 c_63_0 c_63_1 c_63_2 c_63_3) (by decide) ?_
          refine lv_aload_n hx hb dX2_acts_127 rfl (lv_at hl 1 rfl) ?_
          refine lv_iload_n hx hb dX2_acts_128 rfl (lv_at hl 2 rfl) ?_
          refine kc_V (As := [.int x1]) (rest := []) B (c_X2_emptyTinFor l D cI cO tF a0 a1 a2 a3 T x1 (hp)) (cwV 1 hts gX2_acts_X2_emptyTinFor rfl rfl rfl (by decide +kernel) ⟨Nat.le_of_ble_eq_true rfl, Nat.le_of_ble_eq_true rfl⟩) hP hD hS [0, 1, 2, 3] rfl (by decide) (w' := wT a0 a1 a2 a3 cI ((f_X2_emptyTinFor T x1).2)) rfl rfl 0 2 rfl rfl rfl rfl hl.1 rfl (Nat.le_of_ble_eq_true rfl) dX2_acts_129 ⟨Nat.zero_le _, Nat.zero_le _⟩ (fun H locs hP hD hS => ?_)
          have hD : va_D A (wT a0 a1 a2 a3 cI ((f_X2_emptyTinFor T x1).2)) := hD
          have hF : f_X2_acts T x1 x2 = ((f_X2_emptyTinFor T x1).1, (f_X2_emptyTinFor T x1).2) := by rw [f_X2_acts, if_neg c_1, if_neg c_26, if_pos c_34, if_neg c_49, if_neg c_63_0, if_neg c_63_1, if_neg c_63_2, if_neg c_63_3]
          rw [hF]
          exact kr_i B hP hS rfl rfl dX2_acts_132
        · refine lv_aload_n hx hb dX2_acts_52 rfl (lv_at hl 1 rfl) ?_
          refine va_get (D := D) (ci := 2) (v := .int (T_tin T)) (C := RX2) (T := TX2) (N := 6) hx hb hts iw_X2_acts_2 hown hK hP 0 rfl rfl 5 (by decide) (hts (.fieldLink RX2 38 "TownLisp$Town" "tin" "I") (by decide +kernel)) (fun _ h9 => h9) rfl dX2_acts_53 ?_
          refine lv_if_ne (tgt := 62) hx hb dX2_acts_56 (by decide) (fun c_56 => ?_) (fun c_56 => ?_)
          · refine lv_iload_n hx hb dX2_acts_62 rfl (lv_at hl 3 rfl) ?_
            by_cases c_63_0 : x2 = (0 : Int32)
            · refine lv_tableIn (off := 29) (tgt := 92) hx hb dX2_acts_63 (by rw [c_63_0]; decide) (by rw [c_63_0]; decide) (by rw [c_63_0]; rfl) (by decide) ?_
              refine lv_aload_n hx hb dX2_acts_92 rfl (lv_at hl 1 rfl) ?_
              refine lv_iload_n hx hb dX2_acts_93 rfl (lv_at hl 2 rfl) ?_
              refine kc_V (As := [.int x1]) (rest := []) B (c_X2_shareFrom l D cI cO tF a0 a1 a2 a3 T x1 (hn) (hp)) (cwV 1 hts gX2_acts_X2_shareFrom rfl rfl rfl (by decide +kernel) ⟨Nat.le_of_ble_eq_true rfl, Nat.le_of_ble_eq_true rfl⟩) hP hD hS [0, 1, 2, 3] rfl (by decide) (w' := wT a0 a1 a2 a3 cI ((f_X2_shareFrom T x1).2)) rfl rfl 0 2 rfl rfl rfl rfl hl.1 rfl (Nat.le_of_ble_eq_true rfl) dX2_acts_94 ⟨Nat.zero_le _, Nat.zero_le _⟩ (fun H locs hP hD hS => ?_)
              have hD : va_D A (wT a0 a1 a2 a3 cI ((f_X2_shareFrom T x1).2)) := hD
              have hF : f_X2_acts T x1 x2 = ((f_X2_shareFrom T x1).1, (f_X2_shareFrom T x1).2) := by rw [f_X2_acts, if_neg c_1, if_neg c_26, if_pos c_34, if_pos c_49, if_neg c_56, if_pos c_63_0]
              rw [hF]
              exact kr_i B hP hS rfl rfl dX2_acts_97
            by_cases c_63_1 : x2 = (1 : Int32)
            · refine lv_tableIn (off := 35) (tgt := 98) hx hb dX2_acts_63 (by rw [c_63_1]; decide) (by rw [c_63_1]; decide) (by rw [c_63_1]; rfl) (by decide) ?_
              refine lv_aload_n hx hb dX2_acts_98 rfl (lv_at hl 1 rfl) ?_
              refine lv_iload_n hx hb dX2_acts_99 rfl (lv_at hl 2 rfl) ?_
              refine kc_V (As := [.int x1]) (rest := []) B (c_X2_goOut l D cI cO tF a0 a1 a2 a3 T x1 (hn) (hp)) (cwV 1 hts gX2_acts_X2_goOut rfl rfl rfl (by decide +kernel) ⟨Nat.le_of_ble_eq_true rfl, Nat.le_of_ble_eq_true rfl⟩) hP hD hS [0, 1, 2, 3] rfl (by decide) (w' := wT a0 a1 a2 a3 cI ((f_X2_goOut T x1).2)) rfl rfl 0 2 rfl rfl rfl rfl hl.1 rfl (Nat.le_of_ble_eq_true rfl) dX2_acts_100 ⟨Nat.zero_le _, Nat.zero_le _⟩ (fun H locs hP hD hS => ?_)
              have hD : va_D A (wT a0 a1 a2 a3 cI ((f_X2_goOut T x1).2)) := hD
              have hF : f_X2_acts T x1 x2 = ((f_X2_goOut T x1).1, (f_X2_goOut T x1).2) := by rw [f_X2_acts, if_neg c_1, if_neg c_26, if_pos c_34, if_pos c_49, if_neg c_56, if_neg c_63_0, if_pos c_63_1]
              rw [hF]
              exact kr_i B hP hS rfl rfl dX2_acts_103
            by_cases c_63_2 : x2 = (2 : Int32)
            · refine lv_tableIn (off := 41) (tgt := 104) hx hb dX2_acts_63 (by rw [c_63_2]; decide) (by rw [c_63_2]; decide) (by rw [c_63_2]; rfl) (by decide) ?_
              refine lv_aload_n hx hb dX2_acts_104 rfl (lv_at hl 1 rfl) ?_
              refine lv_dup hx hb dX2_acts_105 rfl ?_
              refine va_get (D := D) (ci := 2) (v := .int (T_inside T)) (C := RX2) (T := TX2) (N := 6) hx hb hts iw_X2_acts_2 hown hK hP 0 rfl rfl 4 (by decide) (hts (.fieldLink RX2 41 "TownLisp$Town" "inside" "I") (by decide +kernel)) (fun _ h9 => h9) rfl dX2_acts_106 ?_
              refine lv_iconst (v := (1 : Int32)) hx hb dX2_acts_109 (by decide) ?_
              refine lv_iload_n hx hb dX2_acts_110 rfl (lv_at hl 2 rfl) ?_
              refine lv_ishl hx hb dX2_acts_111 ?_
              refine lv_ior hx hb dX2_acts_112 ?_
              refine va_put (D := D) (ci := 2) (v := .int ((T_inside T) ||| ((1 : Int32) <<< (x1 &&& 31)))) (ty := .int) (C := RX2) (T := TX2) (N := 6) hx hb hts iw_X2_acts_2 tyX2 tyX2_ok nmX2 hown hK hP hD hS 0 rfl rfl 4 (by decide) (hts (.fieldLink RX2 41 "TownLisp$Town" "inside" "I") (by decide +kernel)) (fun _ h9 => h9) rfl (by decide +kernel) rfl rfl (Nat.le_of_ble_eq_true rfl) dX2_acts_113 (fun H locs hP hD hS => ?_)
              have hP : va_P D vwCl (wT a0 a1 a2 a3 cI (T_inside' T ((T_inside T) ||| ((1 : Int32) <<< (x1 &&& 31))))) H := hP
              have hD : va_D A (wT a0 a1 a2 a3 cI (T_inside' T ((T_inside T) ||| ((1 : Int32) <<< (x1 &&& 31))))) := hD
              refine lv_aload_n hx hb dX2_acts_116 rfl (lv_at hl 1 rfl) ?_
              refine kc_V (As := []) (rest := []) B (c_X2_heads l D cI cO tF a0 a1 a2 a3 (T_inside' T ((T_inside T) ||| ((1 : Int32) <<< (x1 &&& 31)))) ) (cwV 0 hts gX2_acts_X2_heads rfl rfl rfl (by decide +kernel) ⟨Nat.le_of_ble_eq_true rfl, Nat.le_of_ble_eq_true rfl⟩) hP hD hS [0, 1, 2, 3] rfl (by decide) (w' := wT a0 a1 a2 a3 cI (T_inside' T ((T_inside T) ||| ((1 : Int32) <<< (x1 &&& 31))))) rfl rfl 0 2 rfl rfl rfl rfl hl.1 rfl (Nat.le_of_ble_eq_true rfl) dX2_acts_117 ⟨Nat.zero_le _, Nat.zero_le _⟩ (fun H locs hP hD hS => ?_)
              have hD : va_D A (wT a0 a1 a2 a3 cI (T_inside' T ((T_inside T) ||| ((1 : Int32) <<< (x1 &&& 31))))) := hD
              have hF : f_X2_acts T x1 x2 = ((f_X2_heads (T_inside' T ((T_inside T) ||| ((1 : Int32) <<< (x1 &&& 31))))), (T_inside' T ((T_inside T) ||| ((1 : Int32) <<< (x1 &&& 31))))) := by rw [f_X2_acts, if_neg c_1, if_neg c_26, if_pos c_34, if_pos c_49, if_neg c_56, if_neg c_63_0, if_neg c_63_1, if_pos c_63_2]
              rw [hF]
              exact kr_i B hP hS rfl rfl dX2_acts_120
            by_cases c_63_3 : x2 = (3 : Int32)
            · refine lv_tableIn (off := 58) (tgt := 121) hx hb dX2_acts_63 (by rw [c_63_3]; decide) (by rw [c_63_3]; decide) (by rw [c_63_3]; rfl) (by decide) ?_
              refine lv_aload_n hx hb dX2_acts_121 rfl (lv_at hl 1 rfl) ?_
              refine lv_iload_n hx hb dX2_acts_122 rfl (lv_at hl 2 rfl) ?_
              refine kc_V (As := [.int x1]) (rest := []) B (c_X2_giveTo l D cI cO tF a0 a1 a2 a3 T x1 (hn) (hp)) (cwV 1 hts gX2_acts_X2_giveTo rfl rfl rfl (by decide +kernel) ⟨Nat.le_of_ble_eq_true rfl, Nat.le_of_ble_eq_true rfl⟩) hP hD hS [0, 1, 2, 3] rfl (by decide) (w' := wT a0 a1 a2 a3 cI ((f_X2_giveTo T x1).2)) rfl rfl 0 2 rfl rfl rfl rfl hl.1 rfl (Nat.le_of_ble_eq_true rfl) dX2_acts_123 ⟨Nat.zero_le _, Nat.zero_le _⟩ (fun H locs hP hD hS => ?_)
              have hD : va_D A (wT a0 a1 a2 a3 cI ((f_X2_giveTo T x1).2)) := hD
              have hF : f_X2_acts T x1 x2 = ((f_X2_giveTo T x1).1, (f_X2_giveTo T x1).2) := by rw [f_X2_acts, if_neg c_1, if_neg c_26, if_pos c_34, if_pos c_49, if_neg c_56, if_neg c_63_0, if_neg c_63_1, if_neg c_63_2, if_pos c_63_3]
              rw [hF]
              exact kr_i B hP hS rfl rfl dX2_acts_126
            refine lv_tableOut (tgt := 127) hx hb dX2_acts_63 (sw_out4 c_63_0 c_63_1 c_63_2 c_63_3) (by decide) ?_
            refine lv_aload_n hx hb dX2_acts_127 rfl (lv_at hl 1 rfl) ?_
            refine lv_iload_n hx hb dX2_acts_128 rfl (lv_at hl 2 rfl) ?_
            refine kc_V (As := [.int x1]) (rest := []) B (c_X2_emptyTinFor l D cI cO tF a0 a1 a2 a3 T x1 (hp)) (cwV 1 hts gX2_acts_X2_emptyTinFor rfl rfl rfl (by decide +kernel) ⟨Nat.le_of_ble_eq_true rfl, Nat.le_of_ble_eq_true rfl⟩) hP hD hS [0, 1, 2, 3] rfl (by decide) (w' := wT a0 a1 a2 a3 cI ((f_X2_emptyTinFor T x1).2)) rfl rfl 0 2 rfl rfl rfl rfl hl.1 rfl (Nat.le_of_ble_eq_true rfl) dX2_acts_129 ⟨Nat.zero_le _, Nat.zero_le _⟩ (fun H locs hP hD hS => ?_)
            have hD : va_D A (wT a0 a1 a2 a3 cI ((f_X2_emptyTinFor T x1).2)) := hD
            have hF : f_X2_acts T x1 x2 = ((f_X2_emptyTinFor T x1).1, (f_X2_emptyTinFor T x1).2) := by rw [f_X2_acts, if_neg c_1, if_neg c_26, if_pos c_34, if_pos c_49, if_neg c_56, if_neg c_63_0, if_neg c_63_1, if_neg c_63_2, if_neg c_63_3]
            rw [hF]
            exact kr_i B hP hS rfl rfl dX2_acts_132
          · refine lv_bipush (v := (-3 : Int32)) hx hb dX2_acts_59 (by decide) ?_
            have hF : f_X2_acts T x1 x2 = ((-3 : Int32), T) := by rw [f_X2_acts, if_neg c_1, if_neg c_26, if_pos c_34, if_pos c_49, if_pos c_56]
            rw [hF]
            exact kr_i B hP hS rfl rfl dX2_acts_61
  · refine lv_aload_n hx hb dX2_acts_4 rfl (lv_at hl 0 rfl) ?_
    refine va_get (D := D) (ci := 2) (v := .int (T_inside T)) (C := RX2) (T := TX2) (N := 6) hx hb hts iw_X2_acts_2 hown hK hP 0 rfl rfl 4 (by decide) (hts (.fieldLink RX2 41 "TownLisp$Town" "inside" "I") (by decide +kernel)) (fun _ h9 => h9) rfl dX2_acts_5 ?_
    refine lv_if_eq (tgt := 15) hx hb dX2_acts_8 (by decide) (fun c_8 => ?_) (fun c_8 => ?_)
    · refine lv_iconst (v := (0 : Int32)) hx hb dX2_acts_15 (by decide) ?_
      refine lv_goto (tgt := 42) hx hb dX2_acts_16 (by decide) ?_
      refine lv_istore_n (lv' := [(3, .int (0 : Int32)), (0, .ref a0), (1, .int x1), (2, .int x2)]) hx hb dX2_acts_42 rfl hl (by decide) rfl (fun ls hl => ?_)
      refine lv_iload_n hx hb dX2_acts_43 rfl (lv_at hl 0 rfl) ?_
      refine lv_if_eq (tgt := 59) hx hb dX2_acts_44 (by decide) (fun _ => ?_) (fun h => absurd h (by decide))
      refine lv_bipush (v := (-3 : Int32)) hx hb dX2_acts_59 (by decide) ?_
      have hF : f_X2_acts T x1 x2 = ((-3 : Int32), T) := by rw [f_X2_acts, if_pos c_1, if_pos c_8]
      rw [hF]
      exact kr_i B hP hS rfl rfl dX2_acts_61
    · refine lv_iconst (v := (1 : Int32)) hx hb dX2_acts_11 (by decide) ?_
      refine lv_goto (tgt := 42) hx hb dX2_acts_12 (by decide) ?_
      refine lv_istore_n (lv' := [(3, .int (1 : Int32)), (0, .ref a0), (1, .int x1), (2, .int x2)]) hx hb dX2_acts_42 rfl hl (by decide) rfl (fun ls hl => ?_)
      refine lv_iload_n hx hb dX2_acts_43 rfl (lv_at hl 0 rfl) ?_
      refine lv_if_eq (tgt := 59) hx hb dX2_acts_44 (by decide) (fun h => absurd h (by decide)) (fun _ => ?_)
      refine lv_iload_n hx hb dX2_acts_47 rfl (lv_at hl 3 rfl) ?_
      refine lv_iconst (v := (4 : Int32)) hx hb dX2_acts_48 (by decide) ?_
      refine lv_icmp_ne (tgt := 62) hx hb dX2_acts_49 (by decide) (fun c_49 => ?_) (fun c_49 => ?_)
      · refine lv_iload_n hx hb dX2_acts_62 rfl (lv_at hl 3 rfl) ?_
        by_cases c_63_0 : x2 = (0 : Int32)
        · refine lv_tableIn (off := 29) (tgt := 92) hx hb dX2_acts_63 (by rw [c_63_0]; decide) (by rw [c_63_0]; decide) (by rw [c_63_0]; rfl) (by decide) ?_
          refine lv_aload_n hx hb dX2_acts_92 rfl (lv_at hl 1 rfl) ?_
          refine lv_iload_n hx hb dX2_acts_93 rfl (lv_at hl 2 rfl) ?_
          refine kc_V (As := [.int x1]) (rest := []) B (c_X2_shareFrom l D cI cO tF a0 a1 a2 a3 T x1 (hn) (hp)) (cwV 1 hts gX2_acts_X2_shareFrom rfl rfl rfl (by decide +kernel) ⟨Nat.le_of_ble_eq_true rfl, Nat.le_of_ble_eq_true rfl⟩) hP hD hS [0, 1, 2, 3] rfl (by decide) (w' := wT a0 a1 a2 a3 cI ((f_X2_shareFrom T x1).2)) rfl rfl 0 2 rfl rfl rfl rfl hl.1 rfl (Nat.le_of_ble_eq_true rfl) dX2_acts_94 ⟨Nat.zero_le _, Nat.zero_le _⟩ (fun H locs hP hD hS => ?_)
          have hD : va_D A (wT a0 a1 a2 a3 cI ((f_X2_shareFrom T x1).2)) := hD
          have hF : f_X2_acts T x1 x2 = ((f_X2_shareFrom T x1).1, (f_X2_shareFrom T x1).2) := by rw [f_X2_acts, if_pos c_1, if_neg c_8, if_neg c_49, if_pos c_63_0]
          rw [hF]
          exact kr_i B hP hS rfl rfl dX2_acts_97
        by_cases c_63_1 : x2 = (1 : Int32)
        · refine lv_tableIn (off := 35) (tgt := 98) hx hb dX2_acts_63 (by rw [c_63_1]; decide) (by rw [c_63_1]; decide) (by rw [c_63_1]; rfl) (by decide) ?_
          refine lv_aload_n hx hb dX2_acts_98 rfl (lv_at hl 1 rfl) ?_
          refine lv_iload_n hx hb dX2_acts_99 rfl (lv_at hl 2 rfl) ?_
          refine kc_V (As := [.int x1]) (rest := []) B (c_X2_goOut l D cI cO tF a0 a1 a2 a3 T x1 (hn) (hp)) (cwV 1 hts gX2_acts_X2_goOut rfl rfl rfl (by decide +kernel) ⟨Nat.le_of_ble_eq_true rfl, Nat.le_of_ble_eq_true rfl⟩) hP hD hS [0, 1, 2, 3] rfl (by decide) (w' := wT a0 a1 a2 a3 cI ((f_X2_goOut T x1).2)) rfl rfl 0 2 rfl rfl rfl rfl hl.1 rfl (Nat.le_of_ble_eq_true rfl) dX2_acts_100 ⟨Nat.zero_le _, Nat.zero_le _⟩ (fun H locs hP hD hS => ?_)
          have hD : va_D A (wT a0 a1 a2 a3 cI ((f_X2_goOut T x1).2)) := hD
          have hF : f_X2_acts T x1 x2 = ((f_X2_goOut T x1).1, (f_X2_goOut T x1).2) := by rw [f_X2_acts, if_pos c_1, if_neg c_8, if_neg c_49, if_neg c_63_0, if_pos c_63_1]
          rw [hF]
          exact kr_i B hP hS rfl rfl dX2_acts_103
        by_cases c_63_2 : x2 = (2 : Int32)
        · refine lv_tableIn (off := 41) (tgt := 104) hx hb dX2_acts_63 (by rw [c_63_2]; decide) (by rw [c_63_2]; decide) (by rw [c_63_2]; rfl) (by decide) ?_
          refine lv_aload_n hx hb dX2_acts_104 rfl (lv_at hl 1 rfl) ?_
          refine lv_dup hx hb dX2_acts_105 rfl ?_
          refine va_get (D := D) (ci := 2) (v := .int (T_inside T)) (C := RX2) (T := TX2) (N := 6) hx hb hts iw_X2_acts_2 hown hK hP 0 rfl rfl 4 (by decide) (hts (.fieldLink RX2 41 "TownLisp$Town" "inside" "I") (by decide +kernel)) (fun _ h9 => h9) rfl dX2_acts_106 ?_
          refine lv_iconst (v := (1 : Int32)) hx hb dX2_acts_109 (by decide) ?_
          refine lv_iload_n hx hb dX2_acts_110 rfl (lv_at hl 2 rfl) ?_
          refine lv_ishl hx hb dX2_acts_111 ?_
          refine lv_ior hx hb dX2_acts_112 ?_
          refine va_put (D := D) (ci := 2) (v := .int ((T_inside T) ||| ((1 : Int32) <<< (x1 &&& 31)))) (ty := .int) (C := RX2) (T := TX2) (N := 6) hx hb hts iw_X2_acts_2 tyX2 tyX2_ok nmX2 hown hK hP hD hS 0 rfl rfl 4 (by decide) (hts (.fieldLink RX2 41 "TownLisp$Town" "inside" "I") (by decide +kernel)) (fun _ h9 => h9) rfl (by decide +kernel) rfl rfl (Nat.le_of_ble_eq_true rfl) dX2_acts_113 (fun H locs hP hD hS => ?_)
          have hP : va_P D vwCl (wT a0 a1 a2 a3 cI (T_inside' T ((T_inside T) ||| ((1 : Int32) <<< (x1 &&& 31))))) H := hP
          have hD : va_D A (wT a0 a1 a2 a3 cI (T_inside' T ((T_inside T) ||| ((1 : Int32) <<< (x1 &&& 31))))) := hD
          refine lv_aload_n hx hb dX2_acts_116 rfl (lv_at hl 1 rfl) ?_
          refine kc_V (As := []) (rest := []) B (c_X2_heads l D cI cO tF a0 a1 a2 a3 (T_inside' T ((T_inside T) ||| ((1 : Int32) <<< (x1 &&& 31)))) ) (cwV 0 hts gX2_acts_X2_heads rfl rfl rfl (by decide +kernel) ⟨Nat.le_of_ble_eq_true rfl, Nat.le_of_ble_eq_true rfl⟩) hP hD hS [0, 1, 2, 3] rfl (by decide) (w' := wT a0 a1 a2 a3 cI (T_inside' T ((T_inside T) ||| ((1 : Int32) <<< (x1 &&& 31))))) rfl rfl 0 2 rfl rfl rfl rfl hl.1 rfl (Nat.le_of_ble_eq_true rfl) dX2_acts_117 ⟨Nat.zero_le _, Nat.zero_le _⟩ (fun H locs hP hD hS => ?_)
          have hD : va_D A (wT a0 a1 a2 a3 cI (T_inside' T ((T_inside T) ||| ((1 : Int32) <<< (x1 &&& 31))))) := hD
          have hF : f_X2_acts T x1 x2 = ((f_X2_heads (T_inside' T ((T_inside T) ||| ((1 : Int32) <<< (x1 &&& 31))))), (T_inside' T ((T_inside T) ||| ((1 : Int32) <<< (x1 &&& 31))))) := by rw [f_X2_acts, if_pos c_1, if_neg c_8, if_neg c_49, if_neg c_63_0, if_neg c_63_1, if_pos c_63_2]
          rw [hF]
          exact kr_i B hP hS rfl rfl dX2_acts_120
        by_cases c_63_3 : x2 = (3 : Int32)
        · refine lv_tableIn (off := 58) (tgt := 121) hx hb dX2_acts_63 (by rw [c_63_3]; decide) (by rw [c_63_3]; decide) (by rw [c_63_3]; rfl) (by decide) ?_
          refine lv_aload_n hx hb dX2_acts_121 rfl (lv_at hl 1 rfl) ?_
          refine lv_iload_n hx hb dX2_acts_122 rfl (lv_at hl 2 rfl) ?_
          refine kc_V (As := [.int x1]) (rest := []) B (c_X2_giveTo l D cI cO tF a0 a1 a2 a3 T x1 (hn) (hp)) (cwV 1 hts gX2_acts_X2_giveTo rfl rfl rfl (by decide +kernel) ⟨Nat.le_of_ble_eq_true rfl, Nat.le_of_ble_eq_true rfl⟩) hP hD hS [0, 1, 2, 3] rfl (by decide) (w' := wT a0 a1 a2 a3 cI ((f_X2_giveTo T x1).2)) rfl rfl 0 2 rfl rfl rfl rfl hl.1 rfl (Nat.le_of_ble_eq_true rfl) dX2_acts_123 ⟨Nat.zero_le _, Nat.zero_le _⟩ (fun H locs hP hD hS => ?_)
          have hD : va_D A (wT a0 a1 a2 a3 cI ((f_X2_giveTo T x1).2)) := hD
          have hF : f_X2_acts T x1 x2 = ((f_X2_giveTo T x1).1, (f_X2_giveTo T x1).2) := by rw [f_X2_acts, if_pos c_1, if_neg c_8, if_neg c_49, if_neg c_63_0, if_neg c_63_1, if_neg c_63_2, if_pos c_63_3]
          rw [hF]
          exact kr_i B hP hS rfl rfl dX2_acts_126
        refine lv_tableOut (tgt := 127) hx hb dX2_acts_63 (sw_out4 c_63_0 c_63_1 c_63_2 c_63_3) (by decide) ?_
        refine lv_aload_n hx hb dX2_acts_127 rfl (lv_at hl 1 rfl) ?_
        refine lv_iload_n hx hb dX2_acts_128 rfl (lv_at hl 2 rfl) ?_
        refine kc_V (As := [.int x1]) (rest := []) B (c_X2_emptyTinFor l D cI cO tF a0 a1 a2 a3 T x1 (hp)) (cwV 1 hts gX2_acts_X2_emptyTinFor rfl rfl rfl (by decide +kernel) ⟨Nat.le_of_ble_eq_true rfl, Nat.le_of_ble_eq_true rfl⟩) hP hD hS [0, 1, 2, 3] rfl (by decide) (w' := wT a0 a1 a2 a3 cI ((f_X2_emptyTinFor T x1).2)) rfl rfl 0 2 rfl rfl rfl rfl hl.1 rfl (Nat.le_of_ble_eq_true rfl) dX2_acts_129 ⟨Nat.zero_le _, Nat.zero_le _⟩ (fun H locs hP hD hS => ?_)
        have hD : va_D A (wT a0 a1 a2 a3 cI ((f_X2_emptyTinFor T x1).2)) := hD
        have hF : f_X2_acts T x1 x2 = ((f_X2_emptyTinFor T x1).1, (f_X2_emptyTinFor T x1).2) := by rw [f_X2_acts, if_pos c_1, if_neg c_8, if_neg c_49, if_neg c_63_0, if_neg c_63_1, if_neg c_63_2, if_neg c_63_3]
        rw [hF]
        exact kr_i B hP hS rfl rfl dX2_acts_132
      · refine lv_aload_n hx hb dX2_acts_52 rfl (lv_at hl 1 rfl) ?_
        refine va_get (D := D) (ci := 2) (v := .int (T_tin T)) (C := RX2) (T := TX2) (N := 6) hx hb hts iw_X2_acts_2 hown hK hP 0 rfl rfl 5 (by decide) (hts (.fieldLink RX2 38 "TownLisp$Town" "tin" "I") (by decide +kernel)) (fun _ h9 => h9) rfl dX2_acts_53 ?_
        refine lv_if_ne (tgt := 62) hx hb dX2_acts_56 (by decide) (fun c_56 => ?_) (fun c_56 => ?_)
        · refine lv_iload_n hx hb dX2_acts_62 rfl (lv_at hl 3 rfl) ?_
          by_cases c_63_0 : x2 = (0 : Int32)
          · refine lv_tableIn (off := 29) (tgt := 92) hx hb dX2_acts_63 (by rw [c_63_0]; decide) (by rw [c_63_0]; decide) (by rw [c_63_0]; rfl) (by decide) ?_
            refine lv_aload_n hx hb dX2_acts_92 rfl (lv_at hl 1 rfl) ?_
            refine lv_iload_n hx hb dX2_acts_93 rfl (lv_at hl 2 rfl) ?_
            refine kc_V (As := [.int x1]) (rest := []) B (c_X2_shareFrom l D cI cO tF a0 a1 a2 a3 T x1 (hn) (hp)) (cwV 1 hts gX2_acts_X2_shareFrom rfl rfl rfl (by decide +kernel) ⟨Nat.le_of_ble_eq_true rfl, Nat.le_of_ble_eq_true rfl⟩) hP hD hS [0, 1, 2, 3] rfl (by decide) (w' := wT a0 a1 a2 a3 cI ((f_X2_shareFrom T x1).2)) rfl rfl 0 2 rfl rfl rfl rfl hl.1 rfl (Nat.le_of_ble_eq_true rfl) dX2_acts_94 ⟨Nat.zero_le _, Nat.zero_le _⟩ (fun H locs hP hD hS => ?_)
            have hD : va_D A (wT a0 a1 a2 a3 cI ((f_X2_shareFrom T x1).2)) := hD
            have hF : f_X2_acts T x1 x2 = ((f_X2_shareFrom T x1).1, (f_X2_shareFrom T x1).2) := by rw [f_X2_acts, if_pos c_1, if_neg c_8, if_pos c_49, if_neg c_56, if_pos c_63_0]
            rw [hF]
            exact kr_i B hP hS rfl rfl dX2_acts_97
          by_cases c_63_1 : x2 = (1 : Int32)
          · refine lv_tableIn (off := 35) (tgt := 98) hx hb dX2_acts_63 (by rw [c_63_1]; decide) (by rw [c_63_1]; decide) (by rw [c_63_1]; rfl) (by decide) ?_
            refine lv_aload_n hx hb dX2_acts_98 rfl (lv_at hl 1 rfl) ?_
            refine lv_iload_n hx hb dX2_acts_99 rfl (lv_at hl 2 rfl) ?_
            refine kc_V (As := [.int x1]) (rest := []) B (c_X2_goOut l D cI cO tF a0 a1 a2 a3 T x1 (hn) (hp)) (cwV 1 hts gX2_acts_X2_goOut rfl rfl rfl (by decide +kernel) ⟨Nat.le_of_ble_eq_true rfl, Nat.le_of_ble_eq_true rfl⟩) hP hD hS [0, 1, 2, 3] rfl (by decide) (w' := wT a0 a1 a2 a3 cI ((f_X2_goOut T x1).2)) rfl rfl 0 2 rfl rfl rfl rfl hl.1 rfl (Nat.le_of_ble_eq_true rfl) dX2_acts_100 ⟨Nat.zero_le _, Nat.zero_le _⟩ (fun H locs hP hD hS => ?_)
            have hD : va_D A (wT a0 a1 a2 a3 cI ((f_X2_goOut T x1).2)) := hD
            have hF : f_X2_acts T x1 x2 = ((f_X2_goOut T x1).1, (f_X2_goOut T x1).2) := by rw [f_X2_acts, if_pos c_1, if_neg c_8, if_pos c_49, if_neg c_56, if_neg c_63_0, if_pos c_63_1]
            rw [hF]
            exact kr_i B hP hS rfl rfl dX2_acts_103
          by_cases c_63_2 : x2 = (2 : Int32)
          · refine lv_tableIn (off := 41) (tgt := 104) hx hb dX2_acts_63 (by rw [c_63_2]; decide) (by rw [c_63_2]; decide) (by rw [c_63_2]; rfl) (by decide) ?_
            refine lv_aload_n hx hb dX2_acts_104 rfl (lv_at hl 1 rfl) ?_
            refine lv_dup hx hb dX2_acts_105 rfl ?_
            refine va_get (D := D) (ci := 2) (v := .int (T_inside T)) (C := RX2) (T := TX2) (N := 6) hx hb hts iw_X2_acts_2 hown hK hP 0 rfl rfl 4 (by decide) (hts (.fieldLink RX2 41 "TownLisp$Town" "inside" "I") (by decide +kernel)) (fun _ h9 => h9) rfl dX2_acts_106 ?_
            refine lv_iconst (v := (1 : Int32)) hx hb dX2_acts_109 (by decide) ?_
            refine lv_iload_n hx hb dX2_acts_110 rfl (lv_at hl 2 rfl) ?_
            refine lv_ishl hx hb dX2_acts_111 ?_
            refine lv_ior hx hb dX2_acts_112 ?_
            refine va_put (D := D) (ci := 2) (v := .int ((T_inside T) ||| ((1 : Int32) <<< (x1 &&& 31)))) (ty := .int) (C := RX2) (T := TX2) (N := 6) hx hb hts iw_X2_acts_2 tyX2 tyX2_ok nmX2 hown hK hP hD hS 0 rfl rfl 4 (by decide) (hts (.fieldLink RX2 41 "TownLisp$Town" "inside" "I") (by decide +kernel)) (fun _ h9 => h9) rfl (by decide +kernel) rfl rfl (Nat.le_of_ble_eq_true rfl) dX2_acts_113 (fun H locs hP hD hS => ?_)
            have hP : va_P D vwCl (wT a0 a1 a2 a3 cI (T_inside' T ((T_inside T) ||| ((1 : Int32) <<< (x1 &&& 31))))) H := hP
            have hD : va_D A (wT a0 a1 a2 a3 cI (T_inside' T ((T_inside T) ||| ((1 : Int32) <<< (x1 &&& 31))))) := hD
            refine lv_aload_n hx hb dX2_acts_116 rfl (lv_at hl 1 rfl) ?_
            refine kc_V (As := []) (rest := []) B (c_X2_heads l D cI cO tF a0 a1 a2 a3 (T_inside' T ((T_inside T) ||| ((1 : Int32) <<< (x1 &&& 31)))) ) (cwV 0 hts gX2_acts_X2_heads rfl rfl rfl (by decide +kernel) ⟨Nat.le_of_ble_eq_true rfl, Nat.le_of_ble_eq_true rfl⟩) hP hD hS [0, 1, 2, 3] rfl (by decide) (w' := wT a0 a1 a2 a3 cI (T_inside' T ((T_inside T) ||| ((1 : Int32) <<< (x1 &&& 31))))) rfl rfl 0 2 rfl rfl rfl rfl hl.1 rfl (Nat.le_of_ble_eq_true rfl) dX2_acts_117 ⟨Nat.zero_le _, Nat.zero_le _⟩ (fun H locs hP hD hS => ?_)
            have hD : va_D A (wT a0 a1 a2 a3 cI (T_inside' T ((T_inside T) ||| ((1 : Int32) <<< (x1 &&& 31))))) := hD
            have hF : f_X2_acts T x1 x2 = ((f_X2_heads (T_inside' T ((T_inside T) ||| ((1 : Int32) <<< (x1 &&& 31))))), (T_inside' T ((T_inside T) ||| ((1 : Int32) <<< (x1 &&& 31))))) := by rw [f_X2_acts, if_pos c_1, if_neg c_8, if_pos c_49, if_neg c_56, if_neg c_63_0, if_neg c_63_1, if_pos c_63_2]
            rw [hF]
            exact kr_i B hP hS rfl rfl dX2_acts_120
          by_cases c_63_3 : x2 = (3 : Int32)
          · refine lv_tableIn (off := 58) (tgt := 121) hx hb dX2_acts_63 (by rw [c_63_3]; decide) (by rw [c_63_3]; decide) (by rw [c_63_3]; rfl) (by decide) ?_
            refine lv_aload_n hx hb dX2_acts_121 rfl (lv_at hl 1 rfl) ?_
            refine lv_iload_n hx hb dX2_acts_122 rfl (lv_at hl 2 rfl) ?_
            refine kc_V (As := [.int x1]) (rest := []) B (c_X2_giveTo l D cI cO tF a0 a1 a2 a3 T x1 (hn) (hp)) (cwV 1 hts gX2_acts_X2_giveTo rfl rfl rfl (by decide +kernel) ⟨Nat.le_of_ble_eq_true rfl, Nat.le_of_ble_eq_true rfl⟩) hP hD hS [0, 1, 2, 3] rfl (by decide) (w' := wT a0 a1 a2 a3 cI ((f_X2_giveTo T x1).2)) rfl rfl 0 2 rfl rfl rfl rfl hl.1 rfl (Nat.le_of_ble_eq_true rfl) dX2_acts_123 ⟨Nat.zero_le _, Nat.zero_le _⟩ (fun H locs hP hD hS => ?_)
            have hD : va_D A (wT a0 a1 a2 a3 cI ((f_X2_giveTo T x1).2)) := hD
            have hF : f_X2_acts T x1 x2 = ((f_X2_giveTo T x1).1, (f_X2_giveTo T x1).2) := by rw [f_X2_acts, if_pos c_1, if_neg c_8, if_pos c_49, if_neg c_56, if_neg c_63_0, if_neg c_63_1, if_neg c_63_2, if_pos c_63_3]
            rw [hF]
            exact kr_i B hP hS rfl rfl dX2_acts_126
          refine lv_tableOut (tgt := 127) hx hb dX2_acts_63 (sw_out4 c_63_0 c_63_1 c_63_2 c_63_3) (by decide) ?_
          refine lv_aload_n hx hb dX2_acts_127 rfl (lv_at hl 1 rfl) ?_
          refine lv_iload_n hx hb dX2_acts_128 rfl (lv_at hl 2 rfl) ?_
          refine kc_V (As := [.int x1]) (rest := []) B (c_X2_emptyTinFor l D cI cO tF a0 a1 a2 a3 T x1 (hp)) (cwV 1 hts gX2_acts_X2_emptyTinFor rfl rfl rfl (by decide +kernel) ⟨Nat.le_of_ble_eq_true rfl, Nat.le_of_ble_eq_true rfl⟩) hP hD hS [0, 1, 2, 3] rfl (by decide) (w' := wT a0 a1 a2 a3 cI ((f_X2_emptyTinFor T x1).2)) rfl rfl 0 2 rfl rfl rfl rfl hl.1 rfl (Nat.le_of_ble_eq_true rfl) dX2_acts_129 ⟨Nat.zero_le _, Nat.zero_le _⟩ (fun H locs hP hD hS => ?_)
          have hD : va_D A (wT a0 a1 a2 a3 cI ((f_X2_emptyTinFor T x1).2)) := hD
          have hF : f_X2_acts T x1 x2 = ((f_X2_emptyTinFor T x1).1, (f_X2_emptyTinFor T x1).2) := by rw [f_X2_acts, if_pos c_1, if_neg c_8, if_pos c_49, if_neg c_56, if_neg c_63_0, if_neg c_63_1, if_neg c_63_2, if_neg c_63_3]
          rw [hF]
          exact kr_i B hP hS rfl rfl dX2_acts_132
        · refine lv_bipush (v := (-3 : Int32)) hx hb dX2_acts_59 (by decide) ?_
          have hF : f_X2_acts T x1 x2 = ((-3 : Int32), T) := by rw [f_X2_acts, if_pos c_1, if_neg c_8, if_pos c_49, if_pos c_56]
          rw [hF]
          exact kr_i B hP hS rfl rfl dX2_acts_61
def fL_X2_partsBehindGatherings_10 (T : TN) (x1 : Int32) (x2 : Int32) : Nat → Int32 → Int32 → Int32
  | 0, _, _ => 0
  | k + 1, x3, x4 => (if (T_count T) ≤ x4 then x3 else (if x4 = x1 then fL_X2_partsBehindGatherings_10 T x1 x2 k (x3 + (0 : Int32)) (x4 + (1 : Int32)) else (if (f_X2_isIn T x4) = 0 then fL_X2_partsBehindGatherings_10 T x1 x2 k (x3 + (0 : Int32)) (x4 + (1 : Int32)) else fL_X2_partsBehindGatherings_10 T x1 x2 k (x3 + (if x2 < ((T_parts T) x4.toNatClampNeg) then x2 else ((T_parts T) x4.toNatClampNeg))) (x4 + (1 : Int32)))))
def f_X2_partsBehindGatherings (T : TN) (x1 : Int32) (x2 : Int32) : Int32 := fL_X2_partsBehindGatherings_10 T x1 x2 7 ((T_parts T) x1.toNatClampNeg) (0 : Int32)
theorem iw_X2_partsBehindGatherings_2 : ∀ w ∈ wsX20, w ∈ wsX2_partsBehindGatherings := fun _ h => List.mem_cons_of_mem _ (List.mem_append_right _ h)
set_option maxHeartbeats 4000000 in
set_option maxRecDepth 100000 in
theorem L_X2_partsBehindGatherings_10 {p : Program} (l : Launch) {e : Env} {s : State} {m : MethodId} {args : Array Value} {below : List Frame} {meth : Method} {c : Code} {A : Nat → Prop} (D : va_G) (cI cO : ClassId) (tF : Nat) (a0 a1 a2 a3 : Nat) (T : TN) (x1 : Int32) (x2 : Int32) (hn : (T_count T).toInt ≤ 6) (hp : vp_in x1 6) (B : Bx p s m args meth c cX2_partsBehindGatherings 5 (some .int) wsX2_partsBehindGatherings RX2 D cI cO tF A) : ∀ (k : Nat) (x3 : Int32) (x4 : Int32), (0 ≤ x4.toInt) → (((T_count T).toInt - x4.toInt).toNat < k) → ∀ (H : Heap) (locs : List Loc), va_P D vwCl (wT a0 a1 a2 a3 cI T) H → va_D A (wT a0 a1 a2 a3 cI T) → va_S A s.heap H locs → ∀ ls : Array Slot, lv_has ls 5 [(0, .ref a0), (1, .int x1), (2, .int x2), (3, .int x3), (4, .int x4)] → W p l e ({ frames := 2, cells := 0, slots := 0, locals := 42 }) s m args below meth c H locs 0 0 (MQ below (Qp D (some (.int (fL_X2_partsBehindGatherings_10 T x1 x2 k x3 x4))) (wT a0 a1 a2 a3 cI T) A) args s 0 0 A) (F0 m 10 ls []) := by
  obtain ⟨hx, hb, hret, hml, hts, hown, hlocks, hE, hA⟩ := id B
  have hK := hE.1
  intro k
  induction k with
  | zero =>
    intro x3 x4 h0 hk
    exact absurd hk (Nat.not_lt_zero _)
  | succ k ih =>
    intro x3 x4 h0 hk H locs hP hD hS ls hl
    refine lv_iload hx hb dX2_partsBehindGatherings_10 (lv_at hl 4 rfl) ?_
    refine lv_aload_n hx hb dX2_partsBehindGatherings_12 rfl (lv_at hl 0 rfl) ?_
    refine va_get (D := D) (ci := 2) (v := .int (T_count T)) (C := RX2) (T := TX2) (N := 6) hx hb hts iw_X2_partsBehindGatherings_2 hown hK hP 0 rfl rfl 3 (by decide) (hts (.fieldLink RX2 30 "TownLisp$Town" "count" "I") (by decide +kernel)) (fun _ h9 => h9) rfl dX2_partsBehindGatherings_13 ?_
    refine lv_icmp_ge (tgt := 58) hx hb dX2_partsBehindGatherings_16 (by decide) (fun c_16 => ?_) (fun c_16 => ?_)
    · refine lv_iload_n hx hb dX2_partsBehindGatherings_58 rfl (lv_at hl 3 rfl) ?_
      have hF : fL_X2_partsBehindGatherings_10 T x1 x2 (k + 1) x3 x4 = x3 := by rw [fL_X2_partsBehindGatherings_10, if_pos c_16]
      rw [hF]
      exact kr_i B hP hS rfl rfl dX2_partsBehindGatherings_59
    · refine lv_iload_n hx hb dX2_partsBehindGatherings_19 rfl (lv_at hl 3 rfl) ?_
      refine lv_iload hx hb dX2_partsBehindGatherings_20 (lv_at hl 4 rfl) ?_
      refine lv_iload_n hx hb dX2_partsBehindGatherings_22 rfl (lv_at hl 1 rfl) ?_
      refine lv_icmp_eq (tgt := 49) hx hb dX2_partsBehindGatherings_23 (by decide) (fun c_23 => ?_) (fun c_23 => ?_)
      · refine lv_iconst (v := (0 : Int32)) hx hb dX2_partsBehindGatherings_49 (by decide) ?_
        refine lv_iadd hx hb dX2_partsBehindGatherings_50 ?_
        refine lv_istore_n (lv' := [(3, .int (x3 + (0 : Int32))), (0, .ref a0), (1, .int x1), (2, .int x2), (4, .int x4)]) hx hb dX2_partsBehindGatherings_51 rfl hl (by decide) rfl (fun ls hl => ?_)
        refine lv_iinc (v := (x4 + (1 : Int32))) (lv' := [(4, .int (x4 + (1 : Int32))), (3, .int (x3 + (0 : Int32))), (0, .ref a0), (1, .int x1), (2, .int x2)]) hx hb dX2_partsBehindGatherings_52 hl (k := 4) rfl rfl (by decide) rfl (fun ls hl => ?_)
        refine lv_goto (tgt := 10) hx hb dX2_partsBehindGatherings_55 (by decide) ?_
        have hF : fL_X2_partsBehindGatherings_10 T x1 x2 (k + 1) x3 x4 = fL_X2_partsBehindGatherings_10 T x1 x2 k (x3 + (0 : Int32)) (x4 + (1 : Int32)) := by rw [fL_X2_partsBehindGatherings_10, if_neg c_16, if_pos c_23]
        rw [hF]
        exact ih (x3 + (0 : Int32)) (x4 + (1 : Int32)) (lp_pre h0 c_16) (lp_mu h0 c_16 hk) _ _ hP hD hS ls (lv_sub hl [2, 3, 4, 1, 0] rfl)
      · refine lv_aload_n hx hb dX2_partsBehindGatherings_26 rfl (lv_at hl 0 rfl) ?_
        refine lv_iload hx hb dX2_partsBehindGatherings_27 (lv_at hl 4 rfl) ?_
        refine kc_V (As := [.int x4]) (rest := [.int x3]) B (c_X2_isIn l D cI cO tF a0 a1 a2 a3 T x4 ) (cwV 1 hts gX2_partsBehindGatherings_X2_isIn rfl rfl rfl (by decide +kernel) ⟨Nat.le_of_ble_eq_true rfl, Nat.le_of_ble_eq_true rfl⟩) hP hD hS [0, 1, 2, 3] rfl (by decide) (w' := wT a0 a1 a2 a3 cI T) rfl rfl 0 2 rfl rfl rfl rfl hl.1 rfl (Nat.le_of_ble_eq_true rfl) dX2_partsBehindGatherings_29 ⟨Nat.zero_le _, Nat.zero_le _⟩ (fun H locs hP hD hS => ?_)
        have hD : va_D A (wT a0 a1 a2 a3 cI T) := hD
        refine lv_if_eq (tgt := 49) hx hb dX2_partsBehindGatherings_32 (by decide) (fun c_32 => ?_) (fun c_32 => ?_)
        · refine lv_iconst (v := (0 : Int32)) hx hb dX2_partsBehindGatherings_49 (by decide) ?_
          refine lv_iadd hx hb dX2_partsBehindGatherings_50 ?_
          refine lv_istore_n (lv' := [(3, .int (x3 + (0 : Int32))), (0, .ref a0), (1, .int x1), (2, .int x2), (4, .int x4)]) hx hb dX2_partsBehindGatherings_51 rfl hl (by decide) rfl (fun ls hl => ?_)
          refine lv_iinc (v := (x4 + (1 : Int32))) (lv' := [(4, .int (x4 + (1 : Int32))), (3, .int (x3 + (0 : Int32))), (0, .ref a0), (1, .int x1), (2, .int x2)]) hx hb dX2_partsBehindGatherings_52 hl (k := 4) rfl rfl (by decide) rfl (fun ls hl => ?_)
          refine lv_goto (tgt := 10) hx hb dX2_partsBehindGatherings_55 (by decide) ?_
          have hF : fL_X2_partsBehindGatherings_10 T x1 x2 (k + 1) x3 x4 = fL_X2_partsBehindGatherings_10 T x1 x2 k (x3 + (0 : Int32)) (x4 + (1 : Int32)) := by rw [fL_X2_partsBehindGatherings_10, if_neg c_16, if_neg c_23, if_pos c_32]
          rw [hF]
          exact ih (x3 + (0 : Int32)) (x4 + (1 : Int32)) (lp_pre h0 c_16) (lp_mu h0 c_16 hk) _ _ hP hD hS ls (lv_sub hl [2, 3, 4, 1, 0] rfl)
        · refine lv_aload_n hx hb dX2_partsBehindGatherings_35 rfl (lv_at hl 0 rfl) ?_
          refine va_get (D := D) (ci := 2) (v := .ref a2) (C := RX2) (T := TX2) (N := 6) hx hb hts iw_X2_partsBehindGatherings_2 hown hK hP 0 rfl rfl 1 (by decide) (hts (.fieldLink RX2 15 "TownLisp$Town" "parts" "[I") (by decide +kernel)) (fun _ h9 => h9) rfl dX2_partsBehindGatherings_36 ?_
          refine lv_iload hx hb dX2_partsBehindGatherings_39 (lv_at hl 4 rfl) ?_
          refine va_iald hx hb hK hP 2 0 rfl rfl (lp_in h0 hn c_16) dX2_partsBehindGatherings_41 ?_
          refine lv_iload_n hx hb dX2_partsBehindGatherings_42 rfl (lv_at hl 2 rfl) ?_
          refine va_mmin hx hb (hml.trans hl.1.symm) hown (hts (.methodLink RX2 21 Lib.Math.min.name) (by decide +kernel)) (hts (.static Lib.Math.min.name) (by decide +kernel)) (hts (.initialized "java/lang/Math") (by decide +kernel)) (hts (.code Lib.Math.min.name Lib.Math.min.code 2 (some .int)) (by decide +kernel)) (Nat.le_of_ble_eq_true rfl) (Nat.le_of_ble_eq_true rfl) (Nat.zero_le _) (Nat.zero_le _) dX2_partsBehindGatherings_43 ?_
          refine lv_goto (tgt := 50) hx hb dX2_partsBehindGatherings_46 (by decide) ?_
          refine lv_iadd hx hb dX2_partsBehindGatherings_50 ?_
          refine lv_istore_n (lv' := [(3, .int (x3 + (if x2 < ((T_parts T) x4.toNatClampNeg) then x2 else ((T_parts T) x4.toNatClampNeg)))), (0, .ref a0), (1, .int x1), (2, .int x2), (4, .int x4)]) hx hb dX2_partsBehindGatherings_51 rfl hl (by decide) rfl (fun ls hl => ?_)
          refine lv_iinc (v := (x4 + (1 : Int32))) (lv' := [(4, .int (x4 + (1 : Int32))), (3, .int (x3 + (if x2 < ((T_parts T) x4.toNatClampNeg) then x2 else ((T_parts T) x4.toNatClampNeg)))), (0, .ref a0), (1, .int x1), (2, .int x2)]) hx hb dX2_partsBehindGatherings_52 hl (k := 4) rfl rfl (by decide) rfl (fun ls hl => ?_)
          refine lv_goto (tgt := 10) hx hb dX2_partsBehindGatherings_55 (by decide) ?_
          have hF : fL_X2_partsBehindGatherings_10 T x1 x2 (k + 1) x3 x4 = fL_X2_partsBehindGatherings_10 T x1 x2 k (x3 + (if x2 < ((T_parts T) x4.toNatClampNeg) then x2 else ((T_parts T) x4.toNatClampNeg))) (x4 + (1 : Int32)) := by rw [fL_X2_partsBehindGatherings_10, if_neg c_16, if_neg c_23, if_neg c_32]
          rw [hF]
          exact ih (x3 + (if x2 < ((T_parts T) x4.toNatClampNeg) then x2 else ((T_parts T) x4.toNatClampNeg))) (x4 + (1 : Int32)) (lp_pre h0 c_16) (lp_mu h0 c_16 hk) _ _ hP hD hS ls (lv_sub hl [2, 3, 4, 1, 0] rfl)
set_option maxHeartbeats 4000000 in
set_option maxRecDepth 100000 in
theorem c_X2_partsBehindGatherings (l : Launch) (D : va_G) (cI cO : ClassId) (tF : Nat) (a0 a1 a2 a3 : Nat) (T : TN) (x1 : Int32) (x2 : Int32) (hn : (T_count T).toInt ≤ 6) (hp : vp_in x1 6) : Ct l yX2_partsBehindGatherings wsX2_partsBehindGatherings ({ frames := 2, cells := 0, slots := 0, locals := 42 }) D cI cO tF [.ref a0, .int x1, .int x2] (wT a0 a1 a2 a3 cI T) (some (.int (f_X2_partsBehindGatherings T x1 x2))) (wT a0 a1 a2 a3 cI T) := by
  refine Ct.of (cc := cX2_partsBehindGatherings) (maxL := 5) (ret := (some .int)) (own := RX2) (by decide) rfl rfl (Nat.le_of_ble_eq_true rfl) ?_
  intro p e s m args below meth c A ls B hP hD hS hl
  obtain ⟨hx, hb, hret, hml, hts, hown, hlocks, hE, hA⟩ := id B
  have hK := hE.1
  have hl : lv_has ls 5 [(0, .ref a0), (1, .int x1), (2, .int x2)] := hl
  refine lv_aload_n hx hb dX2_partsBehindGatherings_0 rfl (lv_at hl 0 rfl) ?_
  refine va_get (D := D) (ci := 2) (v := .ref a2) (C := RX2) (T := TX2) (N := 6) hx hb hts iw_X2_partsBehindGatherings_2 hown hK hP 0 rfl rfl 1 (by decide) (hts (.fieldLink RX2 15 "TownLisp$Town" "parts" "[I") (by decide +kernel)) (fun _ h9 => h9) rfl dX2_partsBehindGatherings_1 ?_
  refine lv_iload_n hx hb dX2_partsBehindGatherings_4 rfl (lv_at hl 1 rfl) ?_
  refine va_iald hx hb hK hP 2 0 rfl rfl (hp) dX2_partsBehindGatherings_5 ?_
  refine lv_istore_n (lv' := [(3, .int ((T_parts T) x1.toNatClampNeg)), (0, .ref a0), (1, .int x1), (2, .int x2)]) hx hb dX2_partsBehindGatherings_6 rfl hl (by decide) rfl (fun ls hl => ?_)
  refine lv_iconst (v := (0 : Int32)) hx hb dX2_partsBehindGatherings_7 (by decide) ?_
  refine lv_istore (lv' := [(4, .int (0 : Int32)), (3, .int ((T_parts T) x1.toNatClampNeg)), (0, .ref a0), (1, .int x1), (2, .int x2)]) hx hb dX2_partsBehindGatherings_8 hl (by decide) rfl (fun ls hl => ?_)
  have hF : f_X2_partsBehindGatherings T x1 x2 = fL_X2_partsBehindGatherings_10 T x1 x2 7 ((T_parts T) x1.toNatClampNeg) (0 : Int32) := by rw [f_X2_partsBehindGatherings]
  rw [hF]
  exact L_X2_partsBehindGatherings_10 l D cI cO tF a0 a1 a2 a3 T x1 x2 hn hp B  7 ((T_parts T) x1.toNatClampNeg) (0 : Int32) (Int.le_refl _) (by rw [show (0 : Int32).toInt = 0 from rfl]; omega) _ _ hP hD hS ls (lv_sub hl [2, 3, 4, 1, 0] rfl)
def fL_X2_lackingUpTo_4 (T : TN) (x1 : Int32) : Nat → Int32 → Int32 → Int32
  | 0, _, _ => 0
  | k + 1, x2, x3 => (if (T_count T) ≤ x3 then x2 else (if (f_X2_isIn T x3) = 0 then fL_X2_lackingUpTo_4 T x1 k (x2 + (0 : Int32)) (x3 + (1 : Int32)) else fL_X2_lackingUpTo_4 T x1 k (x2 + (if (0 : Int32) < (x1 - ((T_parts T) x3.toNatClampNeg)) then (x1 - ((T_parts T) x3.toNatClampNeg)) else (0 : Int32))) (x3 + (1 : Int32))))
def f_X2_lackingUpTo (T : TN) (x1 : Int32) : Int32 := fL_X2_lackingUpTo_4 T x1 7 (0 : Int32) (0 : Int32)
theorem iw_X2_lackingUpTo_2 : ∀ w ∈ wsX20, w ∈ wsX2_lackingUpTo := fun _ h => List.mem_cons_of_mem _ (List.mem_append_right _ h)
set_option maxHeartbeats 4000000 in
set_option maxRecDepth 100000 in
theorem L_X2_lackingUpTo_4 {p : Program} (l : Launch) {e : Env} {s : State} {m : MethodId} {args : Array Value} {below : List Frame} {meth : Method} {c : Code} {A : Nat → Prop} (D : va_G) (cI cO : ClassId) (tF : Nat) (a0 a1 a2 a3 : Nat) (T : TN) (x1 : Int32) (hn : (T_count T).toInt ≤ 6) (B : Bx p s m args meth c cX2_lackingUpTo 4 (some .int) wsX2_lackingUpTo RX2 D cI cO tF A) : ∀ (k : Nat) (x2 : Int32) (x3 : Int32), (0 ≤ x3.toInt) → (((T_count T).toInt - x3.toInt).toNat < k) → ∀ (H : Heap) (locs : List Loc), va_P D vwCl (wT a0 a1 a2 a3 cI T) H → va_D A (wT a0 a1 a2 a3 cI T) → va_S A s.heap H locs → ∀ ls : Array Slot, lv_has ls 4 [(0, .ref a0), (1, .int x1), (2, .int x2), (3, .int x3)] → W p l e ({ frames := 2, cells := 0, slots := 0, locals := 42 }) s m args below meth c H locs 0 0 (MQ below (Qp D (some (.int (fL_X2_lackingUpTo_4 T x1 k x2 x3))) (wT a0 a1 a2 a3 cI T) A) args s 0 0 A) (F0 m 4 ls []) := by
  obtain ⟨hx, hb, hret, hml, hts, hown, hlocks, hE, hA⟩ := id B
  have hK := hE.1
  intro k
  induction k with
  | zero =>
    intro x2 x3 h0 hk
    exact absurd hk (Nat.not_lt_zero _)
  | succ k ih =>
    intro x2 x3 h0 hk H locs hP hD hS ls hl
    refine lv_iload_n hx hb dX2_lackingUpTo_4 rfl (lv_at hl 3 rfl) ?_
    refine lv_aload_n hx hb dX2_lackingUpTo_5 rfl (lv_at hl 0 rfl) ?_
    refine va_get (D := D) (ci := 2) (v := .int (T_count T)) (C := RX2) (T := TX2) (N := 6) hx hb hts iw_X2_lackingUpTo_2 hown hK hP 0 rfl rfl 3 (by decide) (hts (.fieldLink RX2 30 "TownLisp$Town" "count" "I") (by decide +kernel)) (fun _ h9 => h9) rfl dX2_lackingUpTo_6 ?_
    refine lv_icmp_ge (tgt := 45) hx hb dX2_lackingUpTo_9 (by decide) (fun c_9 => ?_) (fun c_9 => ?_)
    · refine lv_iload_n hx hb dX2_lackingUpTo_45 rfl (lv_at hl 2 rfl) ?_
      have hF : fL_X2_lackingUpTo_4 T x1 (k + 1) x2 x3 = x2 := by rw [fL_X2_lackingUpTo_4, if_pos c_9]
      rw [hF]
      exact kr_i B hP hS rfl rfl dX2_lackingUpTo_46
    · refine lv_iload_n hx hb dX2_lackingUpTo_12 rfl (lv_at hl 2 rfl) ?_
      refine lv_aload_n hx hb dX2_lackingUpTo_13 rfl (lv_at hl 0 rfl) ?_
      refine lv_iload_n hx hb dX2_lackingUpTo_14 rfl (lv_at hl 3 rfl) ?_
      refine kc_V (As := [.int x3]) (rest := [.int x2]) B (c_X2_isIn l D cI cO tF a0 a1 a2 a3 T x3 ) (cwV 1 hts gX2_lackingUpTo_X2_isIn rfl rfl rfl (by decide +kernel) ⟨Nat.le_of_ble_eq_true rfl, Nat.le_of_ble_eq_true rfl⟩) hP hD hS [0, 1, 2, 3] rfl (by decide) (w' := wT a0 a1 a2 a3 cI T) rfl rfl 0 2 rfl rfl rfl rfl hl.1 rfl (Nat.le_of_ble_eq_true rfl) dX2_lackingUpTo_15 ⟨Nat.zero_le _, Nat.zero_le _⟩ (fun H locs hP hD hS => ?_)
      have hD : va_D A (wT a0 a1 a2 a3 cI T) := hD
      refine lv_if_eq (tgt := 36) hx hb dX2_lackingUpTo_18 (by decide) (fun c_18 => ?_) (fun c_18 => ?_)
      · refine lv_iconst (v := (0 : Int32)) hx hb dX2_lackingUpTo_36 (by decide) ?_
        refine lv_iadd hx hb dX2_lackingUpTo_37 ?_
        refine lv_istore_n (lv' := [(2, .int (x2 + (0 : Int32))), (0, .ref a0), (1, .int x1), (3, .int x3)]) hx hb dX2_lackingUpTo_38 rfl hl (by decide) rfl (fun ls hl => ?_)
        refine lv_iinc (v := (x3 + (1 : Int32))) (lv' := [(3, .int (x3 + (1 : Int32))), (2, .int (x2 + (0 : Int32))), (0, .ref a0), (1, .int x1)]) hx hb dX2_lackingUpTo_39 hl (k := 3) rfl rfl (by decide) rfl (fun ls hl => ?_)
        refine lv_goto (tgt := 4) hx hb dX2_lackingUpTo_42 (by decide) ?_
        have hF : fL_X2_lackingUpTo_4 T x1 (k + 1) x2 x3 = fL_X2_lackingUpTo_4 T x1 k (x2 + (0 : Int32)) (x3 + (1 : Int32)) := by rw [fL_X2_lackingUpTo_4, if_neg c_9, if_pos c_18]
        rw [hF]
        exact ih (x2 + (0 : Int32)) (x3 + (1 : Int32)) (lp_pre h0 c_9) (lp_mu h0 c_9 hk) _ _ hP hD hS ls (lv_sub hl [2, 3, 1, 0] rfl)
      · refine lv_iconst (v := (0 : Int32)) hx hb dX2_lackingUpTo_21 (by decide) ?_
        refine lv_iload_n hx hb dX2_lackingUpTo_22 rfl (lv_at hl 1 rfl) ?_
        refine lv_aload_n hx hb dX2_lackingUpTo_23 rfl (lv_at hl 0 rfl) ?_
        refine va_get (D := D) (ci := 2) (v := .ref a2) (C := RX2) (T := TX2) (N := 6) hx hb hts iw_X2_lackingUpTo_2 hown hK hP 0 rfl rfl 1 (by decide) (hts (.fieldLink RX2 15 "TownLisp$Town" "parts" "[I") (by decide +kernel)) (fun _ h9 => h9) rfl dX2_lackingUpTo_24 ?_
        refine lv_iload_n hx hb dX2_lackingUpTo_27 rfl (lv_at hl 3 rfl) ?_
        refine va_iald hx hb hK hP 2 0 rfl rfl (lp_in h0 hn c_9) dX2_lackingUpTo_28 ?_
        refine lv_isub hx hb dX2_lackingUpTo_29 ?_
        refine va_mmax hx hb (hml.trans hl.1.symm) hown (hts (.methodLink RX2 27 Lib.Math.max.name) (by decide +kernel)) (hts (.static Lib.Math.max.name) (by decide +kernel)) (hts (.initialized "java/lang/Math") (by decide +kernel)) (hts (.code Lib.Math.max.name Lib.Math.max.code 2 (some .int)) (by decide +kernel)) (Nat.le_of_ble_eq_true rfl) (Nat.le_of_ble_eq_true rfl) (Nat.zero_le _) (Nat.zero_le _) dX2_lackingUpTo_30 ?_
        refine lv_goto (tgt := 37) hx hb dX2_lackingUpTo_33 (by decide) ?_
        refine lv_iadd hx hb dX2_lackingUpTo_37 ?_
        refine lv_istore_n (lv' := [(2, .int (x2 + (if (0 : Int32) < (x1 - ((T_parts T) x3.toNatClampNeg)) then (x1 - ((T_parts T) x3.toNatClampNeg)) else (0 : Int32)))), (0, .ref a0), (1, .int x1), (3, .int x3)]) hx hb dX2_lackingUpTo_38 rfl hl (by decide) rfl (fun ls hl => ?_)
        refine lv_iinc (v := (x3 + (1 : Int32))) (lv' := [(3, .int (x3 + (1 : Int32))), (2, .int (x2 + (if (0 : Int32) < (x1 - ((T_parts T) x3.toNatClampNeg)) then (x1 - ((T_parts T) x3.toNatClampNeg)) else (0 : Int32)))), (0, .ref a0), (1, .int x1)]) hx hb dX2_lackingUpTo_39 hl (k := 3) rfl rfl (by decide) rfl (fun ls hl => ?_)
        refine lv_goto (tgt := 4) hx hb dX2_lackingUpTo_42 (by decide) ?_
        have hF : fL_X2_lackingUpTo_4 T x1 (k + 1) x2 x3 = fL_X2_lackingUpTo_4 T x1 k (x2 + (if (0 : Int32) < (x1 - ((T_parts T) x3.toNatClampNeg)) then (x1 - ((T_parts T) x3.toNatClampNeg)) else (0 : Int32))) (x3 + (1 : Int32)) := by rw [fL_X2_lackingUpTo_4, if_neg c_9, if_neg c_18]
        rw [hF]
        exact ih (x2 + (if (0 : Int32) < (x1 - ((T_parts T) x3.toNatClampNeg)) then (x1 - ((T_parts T) x3.toNatClampNeg)) else (0 : Int32))) (x3 + (1 : Int32)) (lp_pre h0 c_9) (lp_mu h0 c_9 hk) _ _ hP hD hS ls (lv_sub hl [2, 3, 1, 0] rfl)
set_option maxHeartbeats 4000000 in
set_option maxRecDepth 100000 in
theorem c_X2_lackingUpTo (l : Launch) (D : va_G) (cI cO : ClassId) (tF : Nat) (a0 a1 a2 a3 : Nat) (T : TN) (x1 : Int32) (hn : (T_count T).toInt ≤ 6) : Ct l yX2_lackingUpTo wsX2_lackingUpTo ({ frames := 2, cells := 0, slots := 0, locals := 42 }) D cI cO tF [.ref a0, .int x1] (wT a0 a1 a2 a3 cI T) (some (.int (f_X2_lackingUpTo T x1))) (wT a0 a1 a2 a3 cI T) := by
  refine Ct.of (cc := cX2_lackingUpTo) (maxL := 4) (ret := (some .int)) (own := RX2) (by decide) rfl rfl (Nat.le_of_ble_eq_true rfl) ?_
  intro p e s m args below meth c A ls B hP hD hS hl
  obtain ⟨hx, hb, hret, hml, hts, hown, hlocks, hE, hA⟩ := id B
  have hK := hE.1
  have hl : lv_has ls 4 [(0, .ref a0), (1, .int x1)] := hl
  refine lv_iconst (v := (0 : Int32)) hx hb dX2_lackingUpTo_0 (by decide) ?_
  refine lv_istore_n (lv' := [(2, .int (0 : Int32)), (0, .ref a0), (1, .int x1)]) hx hb dX2_lackingUpTo_1 rfl hl (by decide) rfl (fun ls hl => ?_)
  refine lv_iconst (v := (0 : Int32)) hx hb dX2_lackingUpTo_2 (by decide) ?_
  refine lv_istore_n (lv' := [(3, .int (0 : Int32)), (2, .int (0 : Int32)), (0, .ref a0), (1, .int x1)]) hx hb dX2_lackingUpTo_3 rfl hl (by decide) rfl (fun ls hl => ?_)
  have hF : f_X2_lackingUpTo T x1 = fL_X2_lackingUpTo_4 T x1 7 (0 : Int32) (0 : Int32) := by rw [f_X2_lackingUpTo]
  rw [hF]
  exact L_X2_lackingUpTo_4 l D cI cO tF a0 a1 a2 a3 T x1 hn B  7 (0 : Int32) (0 : Int32) (Int.le_refl _) (by rw [show (0 : Int32).toInt = 0 from rfl]; omega) _ _ hP hD hS ls (lv_sub hl [2, 3, 1, 0] rfl)
def f_X2_partsBehindDay (T : TN) (x1 : Int32) (x2 : Int32) : Int32 := (if (f_J6_bitCount_0f7a4 x1) = 0 then ((T_parts T) x2.toNatClampNeg) else (if ((f_X2_partsOf T x1) - (f_X2_partsOf T x1) / (f_J6_bitCount_0f7a4 x1) * (f_J6_bitCount_0f7a4 x1)) ≤ (f_J6_bitCount_0f7a4 (x1 &&& (((1 : Int32) <<< (x2 &&& 31)) - (1 : Int32)))) then (((f_X2_partsOf T x1) / (f_J6_bitCount_0f7a4 x1)) + (0 : Int32)) else (((f_X2_partsOf T x1) / (f_J6_bitCount_0f7a4 x1)) + (1 : Int32))))
theorem iw_X2_partsBehindDay_2 : ∀ w ∈ wsX20, w ∈ wsX2_partsBehindDay := fun _ h => List.mem_cons_of_mem _ (List.mem_append_right _ h)
set_option maxHeartbeats 4000000 in
set_option maxRecDepth 100000 in
theorem c_X2_partsBehindDay (l : Launch) (D : va_G) (cI cO : ClassId) (tF : Nat) (a0 a1 a2 a3 : Nat) (T : TN) (x1 : Int32) (x2 : Int32) (hn : (T_count T).toInt ≤ 6) (hp : vp_in x2 6) : Ct l yX2_partsBehindDay wsX2_partsBehindDay ({ frames := 2, cells := 0, slots := 0, locals := 44 }) D cI cO tF [.ref a0, .int x1, .int x2] (wT a0 a1 a2 a3 cI T) (some (.int (f_X2_partsBehindDay T x1 x2))) (wT a0 a1 a2 a3 cI T) := by
  refine Ct.of (cc := cX2_partsBehindDay) (maxL := 6) (ret := (some .int)) (own := RX2) (by decide) rfl rfl (Nat.le_of_ble_eq_true rfl) ?_
  intro p e s m args below meth c A ls B hP hD hS hl
  obtain ⟨hx, hb, hret, hml, hts, hown, hlocks, hE, hA⟩ := id B
  have hK := hE.1
  have hl : lv_has ls 6 [(0, .ref a0), (1, .int x1), (2, .int x2)] := hl
  refine lv_iload_n hx hb dX2_partsBehindDay_0 rfl (lv_at hl 1 rfl) ?_
  refine kc_S (As := [.int x1]) (rest := []) B (c_J6_bitCount_0f7a4 l D cI cO tF x1 ) (va_cwS 1 hts gX2_partsBehindDay_J6_bitCount_0f7a4 rfl rfl rfl (by decide +kernel) ⟨Nat.le_of_ble_eq_true rfl, Nat.le_of_ble_eq_true rfl⟩) hP hD hS [] rfl (by decide) (w' := wT a0 a1 a2 a3 cI T) rfl rfl rfl hl.1 rfl (Nat.le_of_ble_eq_true rfl) dX2_partsBehindDay_1 ⟨Nat.zero_le _, Nat.zero_le _⟩ (fun H locs hP hD hS => ?_)
  have hD : va_D A (wT a0 a1 a2 a3 cI T) := hD
  refine lv_istore_n (lv' := [(3, .int (f_J6_bitCount_0f7a4 x1)), (0, .ref a0), (1, .int x1), (2, .int x2)]) hx hb dX2_partsBehindDay_4 rfl hl (by decide) rfl (fun ls hl => ?_)
  refine lv_iload_n hx hb dX2_partsBehindDay_5 rfl (lv_at hl 0 rfl) ?_
  refine lv_if_ne (tgt := 16) hx hb dX2_partsBehindDay_6 (by decide) (fun c_6 => ?_) (fun c_6 => ?_)
  · refine lv_aload_n hx hb dX2_partsBehindDay_16 rfl (lv_at hl 1 rfl) ?_
    refine lv_iload_n hx hb dX2_partsBehindDay_17 rfl (lv_at hl 2 rfl) ?_
    refine kc_V (As := [.int x1]) (rest := []) B (c_X2_partsOf l D cI cO tF a0 a1 a2 a3 T x1 (hn)) (cwV 1 hts gX2_partsBehindDay_X2_partsOf rfl rfl rfl (by decide +kernel) ⟨Nat.le_of_ble_eq_true rfl, Nat.le_of_ble_eq_true rfl⟩) hP hD hS [0, 1, 2, 3] rfl (by decide) (w' := wT a0 a1 a2 a3 cI T) rfl rfl 0 2 rfl rfl rfl rfl hl.1 rfl (Nat.le_of_ble_eq_true rfl) dX2_partsBehindDay_18 ⟨Nat.zero_le _, Nat.zero_le _⟩ (fun H locs hP hD hS => ?_)
    have hD : va_D A (wT a0 a1 a2 a3 cI T) := hD
    refine lv_istore (lv' := [(4, .int (f_X2_partsOf T x1)), (3, .int (f_J6_bitCount_0f7a4 x1)), (0, .ref a0), (1, .int x1), (2, .int x2)]) hx hb dX2_partsBehindDay_21 hl (by decide) rfl (fun ls hl => ?_)
    refine lv_iload_n hx hb dX2_partsBehindDay_23 rfl (lv_at hl 3 rfl) ?_
    refine lv_iconst (v := (1 : Int32)) hx hb dX2_partsBehindDay_24 (by decide) ?_
    refine lv_iload_n hx hb dX2_partsBehindDay_25 rfl (lv_at hl 4 rfl) ?_
    refine lv_ishl hx hb dX2_partsBehindDay_26 ?_
    refine lv_iconst (v := (1 : Int32)) hx hb dX2_partsBehindDay_27 (by decide) ?_
    refine lv_isub hx hb dX2_partsBehindDay_28 ?_
    refine lv_iand hx hb dX2_partsBehindDay_29 ?_
    refine kc_S (As := [.int (x1 &&& (((1 : Int32) <<< (x2 &&& 31)) - (1 : Int32)))]) (rest := []) B (c_J6_bitCount_0f7a4 l D cI cO tF (x1 &&& (((1 : Int32) <<< (x2 &&& 31)) - (1 : Int32))) ) (va_cwS 1 hts gX2_partsBehindDay_J6_bitCount_0f7a4 rfl rfl rfl (by decide +kernel) ⟨Nat.le_of_ble_eq_true rfl, Nat.le_of_ble_eq_true rfl⟩) hP hD hS [] rfl (by decide) (w' := wT a0 a1 a2 a3 cI T) rfl rfl rfl hl.1 rfl (Nat.le_of_ble_eq_true rfl) dX2_partsBehindDay_30 ⟨Nat.zero_le _, Nat.zero_le _⟩ (fun H locs hP hD hS => ?_)
    have hD : va_D A (wT a0 a1 a2 a3 cI T) := hD
    refine lv_istore (lv' := [(5, .int (f_J6_bitCount_0f7a4 (x1 &&& (((1 : Int32) <<< (x2 &&& 31)) - (1 : Int32))))), (4, .int (f_X2_partsOf T x1)), (3, .int (f_J6_bitCount_0f7a4 x1)), (0, .ref a0), (1, .int x1), (2, .int x2)]) hx hb dX2_partsBehindDay_33 hl (by decide) rfl (fun ls hl => ?_)
    refine lv_iload hx hb dX2_partsBehindDay_35 (lv_at hl 1 rfl) ?_
    refine lv_iload_n hx hb dX2_partsBehindDay_37 rfl (lv_at hl 2 rfl) ?_
    refine lv_idiv hx hb dX2_partsBehindDay_38 (c_6) ?_
    refine lv_iload hx hb dX2_partsBehindDay_39 (lv_at hl 0 rfl) ?_
    refine lv_iload hx hb dX2_partsBehindDay_41 (lv_at hl 1 rfl) ?_
    refine lv_iload_n hx hb dX2_partsBehindDay_43 rfl (lv_at hl 2 rfl) ?_
    refine lv_irem hx hb dX2_partsBehindDay_44 (c_6) ?_
    refine lv_icmp_ge (tgt := 52) hx hb dX2_partsBehindDay_45 (by decide) (fun c_45 => ?_) (fun c_45 => ?_)
    · refine lv_iconst (v := (0 : Int32)) hx hb dX2_partsBehindDay_52 (by decide) ?_
      refine lv_iadd hx hb dX2_partsBehindDay_53 ?_
      have hF : f_X2_partsBehindDay T x1 x2 = (((f_X2_partsOf T x1) / (f_J6_bitCount_0f7a4 x1)) + (0 : Int32)) := by rw [f_X2_partsBehindDay, if_neg c_6, if_pos c_45]
      rw [hF]
      exact kr_i B hP hS rfl rfl dX2_partsBehindDay_54
    · refine lv_iconst (v := (1 : Int32)) hx hb dX2_partsBehindDay_48 (by decide) ?_
      refine lv_goto (tgt := 53) hx hb dX2_partsBehindDay_49 (by decide) ?_
      refine lv_iadd hx hb dX2_partsBehindDay_53 ?_
      have hF : f_X2_partsBehindDay T x1 x2 = (((f_X2_partsOf T x1) / (f_J6_bitCount_0f7a4 x1)) + (1 : Int32)) := by rw [f_X2_partsBehindDay, if_neg c_6, if_neg c_45]
      rw [hF]
      exact kr_i B hP hS rfl rfl dX2_partsBehindDay_54
  · refine lv_aload_n hx hb dX2_partsBehindDay_9 rfl (lv_at hl 1 rfl) ?_
    refine va_get (D := D) (ci := 2) (v := .ref a2) (C := RX2) (T := TX2) (N := 6) hx hb hts iw_X2_partsBehindDay_2 hown hK hP 0 rfl rfl 1 (by decide) (hts (.fieldLink RX2 15 "TownLisp$Town" "parts" "[I") (by decide +kernel)) (fun _ h9 => h9) rfl dX2_partsBehindDay_10 ?_
    refine lv_iload_n hx hb dX2_partsBehindDay_13 rfl (lv_at hl 3 rfl) ?_
    refine va_iald hx hb hK hP 2 0 rfl rfl (hp) dX2_partsBehindDay_14 ?_
    have hF : f_X2_partsBehindDay T x1 x2 = ((T_parts T) x2.toNatClampNeg) := by rw [f_X2_partsBehindDay, if_pos c_6]
    rw [hF]
    exact kr_i B hP hS rfl rfl dX2_partsBehindDay_15
