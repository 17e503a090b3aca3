/-! rows on the four sheets, by a number j below 4 -/
theorem wX_sheet {ad : Nat → Nat} {cI cO : ClassId} {x : XS} {j : Nat} (hj : j < 4) : (wX ad cI cO x)[14 + 2 * j]? = some (ad (14 + 2 * j), .inr (1, [.ref (ad (15 + 2 * j)), .int (S_lane (X_sheets x j)), .int (S_length (X_sheets x j)), .int (S_held (X_sheets x j))])) := by
  match j, hj with
  | 0, _ => rfl
  | 1, _ => rfl
  | 2, _ => rfl
  | 3, _ => rfl
theorem wX_sheetc {ad : Nat → Nat} {cI cO : ClassId} {x : XS} {j : Nat} (hj : j < 4) : (wX ad cI cO x)[15 + 2 * j]? = some (ad (15 + 2 * j), .inl (cI, 60, .inl (S_cells (X_sheets x j)))) := by
  match j, hj with
  | 0, _ => rfl
  | 1, _ => rfl
  | 2, _ => rfl
  | 3, _ => rfl
theorem wX_subC {ad : Nat → Nat} {cI cO : ClassId} {x : XS} {j : Nat} (hj : j < 4) : [14 + 2 * j, 15 + 2 * j].map (fun i => (wX ad cI cO x)[i]?) = (wS (ad (14 + 2 * j)) (ad (15 + 2 * j)) cI (X_sheets x j)).map some := by
  match j, hj with
  | 0, _ => rfl
  | 1, _ => rfl
  | 2, _ => rfl
  | 3, _ => rfl
theorem wX_setS {ad : Nat → Nat} {cI cO : ClassId} {x : XS} {j : Nat} (hj : j < 4) (u : SH) : kq_set (wX ad cI cO x) [14 + 2 * j, 15 + 2 * j] (wS (ad (14 + 2 * j)) (ad (15 + 2 * j)) cI u) = wX ad cI cO (X_sheets' x (va_up (X_sheets x) j u)) := by
  match j, hj with
  | 0, _ => rfl
  | 1, _ => rfl
  | 2, _ => rfl
  | 3, _ => rfl
theorem wX_same {ad : Nat → Nat} {cI cO : ClassId} {x : XS} {j : Nat} (hj : j < 4) : kq_set (wX ad cI cO x) [14 + 2 * j, 15 + 2 * j] (wS (ad (14 + 2 * j)) (ad (15 + 2 * j)) cI (X_sheets x j)) = wX ad cI cO x := by
  match j, hj with
  | 0, _ => rfl
  | 1, _ => rfl
  | 2, _ => rfl
  | 3, _ => rfl
theorem wX_seth {ad : Nat → Nat} {cI cO : ClassId} {x : XS} {j : Nat} (hj : j < 4) (v : Int32) : (wX ad cI cO x).set (14 + 2 * j) (ad (14 + 2 * j), .inr (1, [.ref (ad (15 + 2 * j)), .int (S_lane (X_sheets x j)), .int (S_length (X_sheets x j)), .int v])) = wX ad cI cO (X_sheets' x (va_up (X_sheets x) j (S_held' (X_sheets x j) v))) := by
  match j, hj with
  | 0, _ => rfl
  | 1, _ => rfl
  | 2, _ => rfl
  | 3, _ => rfl
theorem wX_setc {ad : Nat → Nat} {cI cO : ClassId} {x : XS} {j : Nat} (hj : j < 4) (v : Nat → Int32) : (wX ad cI cO x).set (15 + 2 * j) (ad (15 + 2 * j), .inl (cI, 60, .inl v)) = wX ad cI cO (X_sheets' x (va_up (X_sheets x) j (S_cells' (X_sheets x j) v))) := by
  match j, hj with
  | 0, _ => rfl
  | 1, _ => rfl
  | 2, _ => rfl
  | 3, _ => rfl
theorem nd_s (j : Nat) : va_nd [14 + 2 * j, 15 + 2 * j] = true := by
  simp only [va_nd, Bool.and_eq_true, decide_eq_true_eq, List.mem_cons, List.not_mem_nil, or_false, not_false_eq_true, and_true]
  omega
theorem nd_ts {j : Nat} (hj : j < 4) : va_nd [2, 3, 4, 5, 14 + 2 * j, 15 + 2 * j] = true := by
  match j, hj with
  | 0, _ => decide
  | 1, _ => decide
  | 2, _ => decide
  | 3, _ => decide
theorem wX_subTS {ad : Nat → Nat} {cI cO : ClassId} {x : XS} {j : Nat} (hj : j < 4) : [2, 3, 4, 5, 14 + 2 * j, 15 + 2 * j].map (fun i => (wX ad cI cO x)[i]?) = (wT (ad 2) (ad 3) (ad 4) (ad 5) cI (X_now x) ++ wS (ad (14 + 2 * j)) (ad (15 + 2 * j)) cI (X_sheets x j)).map some := by
  match j, hj with
  | 0, _ => rfl
  | 1, _ => rfl
  | 2, _ => rfl
  | 3, _ => rfl
theorem wX_setTS {ad : Nat → Nat} {cI cO : ClassId} {x : XS} {j : Nat} (hj : j < 4) (t : TN) : kq_set (wX ad cI cO x) [2, 3, 4, 5, 14 + 2 * j, 15 + 2 * j] (wT (ad 2) (ad 3) (ad 4) (ad 5) cI t ++ wS (ad (14 + 2 * j)) (ad (15 + 2 * j)) cI (X_sheets x j)) = wX ad cI cO (X_now' x t) := by
  match j, hj with
  | 0, _ => rfl
  | 1, _ => rfl
  | 2, _ => rfl
  | 3, _ => rfl
theorem sh_j {k : Int32} (h : 0 ≤ k ∧ k < 4) : k.toNatClampNeg < 4 := by
  obtain ⟨h1, h2⟩ := h
  rw [fa_le, show (0 : Int32).toInt = 0 from rfl] at h1
  rw [fa_lt, show (4 : Int32).toInt = 4 from rfl] at h2
  rw [Int32.toNatClampNeg]
  omega
theorem sp_of {S : SH} {i n : Int32} (h : ¬ f_X1_spans S i n = 0) (hL : (S_length S).toInt ≤ 60) : 0 ≤ i.toInt ∧ 0 ≤ n.toInt ∧ i.toInt + n.toInt ≤ (S_length S).toInt := by
  unfold f_X1_spans at h
  split at h
  · exact absurd rfl h
  · split at h
    · exact absurd rfl h
    · split at h
      · exact absurd rfl h
      · split at h
        · exact absurd rfl h
        · rename_i h1 h2 h3 h4
          rw [fa_lt, show (0 : Int32).toInt = 0 from rfl] at h1 h2
          rw [fa_lt] at h3 h4
          rw [fb_subI (by omega) (by omega)] at h4
          omega
theorem sp_in {S : SH} {i : Int32} (h : ¬ f_X1_spans S i (1 : Int32) = 0) (hL : (S_length S).toInt ≤ 60) : vp_in i 60 := by
  have h1 := sp_of h hL
  rw [show (1 : Int32).toInt = 1 from rfl] at h1
  exact vp_in_iff.mpr ⟨h1.1, by omega⟩
theorem sp_cl {S : SH} {i n : Int32} (h : ¬ f_X1_spans S i n = 0) (hL : (S_length S).toInt ≤ 60) : ¬ i < 0 ∧ ¬ n < 0 ∧ i.toNatClampNeg + n.toNatClampNeg ≤ 60 := by
  have h1 := sp_of h hL
  refine ⟨?_, ?_, ?_⟩
  · rw [fa_lt, show (0 : Int32).toInt = 0 from rfl]; omega
  · rw [fa_lt, show (0 : Int32).toInt = 0 from rfl]; omega
  · rw [Int32.toNatClampNeg, Int32.toNatClampNeg]; omega
section KA
variable {p : Program} {l : Launch} {e : Env} {R : Room} {s : State} {m : MethodId} {args : Array Value} {below : List Frame} {meth : Method} {c : Code} {H : Heap} {locs : List Loc}
variable {cc : ByteArray} {pc nL : Nat} {ls : Array Slot} {D : va_G} {A : Nat → Prop} {cI cO : ClassId} {tF : Nat} {Ts : List Cond} {own : String} {w w' : va_W}
/-- areturn -/
theorem kr_a {v x : Value} {C : String} (B : Bx p s m args meth c cc nL (some (.object C)) Ts own D cI cO tF A) (hP : va_P D vwCl w H) (hS : va_S A s.heap H locs) (hw : w = w') (hv : v = x) (hn : v = .null ∨ ∃ a, v = .ref a) (hdg : decode cc pc = .ok (.areturn, 1)) : W p l e R s m args below meth c H locs 0 0 (MQ below (Qp D (some x) w' A) args s 0 0 A) (F0 m pc ls [v]) := by
  obtain ⟨hx, hb, hr, hml, hts, hown, hlocks, hK, hA⟩ := B
  subst hw; subst hv
  exact W.aret hx hb hr (Or.inl ⟨_, rfl⟩) hn (fun t ht hW => ⟨⟨rfl, by rw [ht]; exact hP⟩, hS.F ht⟩) hS.2.2 hdg hlocks
end KA
theorem iw_X3_sheetAt_3 : ∀ w ∈ wsX30, w ∈ wsX3_sheetAt := fun _ h => List.mem_cons_of_mem _ (List.mem_append_right _ h)
set_option maxHeartbeats 4000000 in
set_option maxRecDepth 100000 in
theorem c_X3_sheetAt_some (l : Launch) (D : va_G) (cI cO : ClassId) (tF : Nat) (ad : Nat → Nat) (X : XS) (x1 : Int32) (hk : 0 ≤ x1 ∧ x1 < 4) : Ct l yX3_sheetAt wsX3_sheetAt ({ frames := 0, cells := 0, slots := 0, locals := 0 }) D cI cO tF [.ref (ad 0), .int x1] (wX ad cI cO X) (some (.ref (ad (14 + 2 * x1.toNatClampNeg)))) (wX ad cI cO X) := by
  refine Ct.of (cc := cX3_sheetAt) (maxL := 2) (ret := (some (.object "TownLisp$Sheet"))) (own := RX3) (by decide) rfl rfl (Nat.le_of_ble_eq_true rfl) ?_
  intro p e s m args below meth c A ls B hP hD hS hl
  obtain ⟨hx, hb, hr, hml, hts, hown, hlocks, hE, hA⟩ := id B
  have hK := hE.1
  have hl : lv_has ls 2 [(0, .ref (ad 0)), (1, .int x1)] := hl
  have hk1 : ¬ x1 < 0 := by have h := hk.1; rw [fa_le] at h; rw [fa_lt]; omega
  have hk2 : ¬ (4 : Int32) ≤ x1 := by have h := hk.2; rw [fa_lt] at h; rw [fa_le]; omega
  refine lv_iload_n hx hb dX3_sheetAt_0 rfl (lv_at hl 1 rfl) ?_
  refine lv_if_lt (tgt := 22) hx hb dX3_sheetAt_1 (by decide) (fun h => absurd h hk1) (fun _ => ?_)
  refine lv_iload_n hx hb dX3_sheetAt_4 rfl (lv_at hl 1 rfl) ?_
  refine lv_aload_n hx hb dX3_sheetAt_5 rfl (lv_at hl 0 rfl) ?_
  refine va_get (D := D) (ci := 3) (v := .ref (ad 1)) (C := RX3) (T := TX3) (N := 7) hx hb hts iw_X3_sheetAt_3 hown hK hP 0 rfl rfl 0 (by decide) (hts (.fieldLink RX3 13 "TownLisp" "sheets" "[LTownLisp$Sheet;") (by decide +kernel)) (fun _ h9 => h9) rfl dX3_sheetAt_6 ?_
  refine va_alen (v := 4) hx hb hK hP 1 1 rfl rfl rfl dX3_sheetAt_9 ?_
  refine lv_icmp_ge (tgt := 22) hx hb dX3_sheetAt_10 (by decide) (fun h => absurd h hk2) (fun _ => ?_)
  refine lv_aload_n hx hb dX3_sheetAt_13 rfl (lv_at hl 0 rfl) ?_
  refine va_get (D := D) (ci := 3) (v := .ref (ad 1)) (C := RX3) (T := TX3) (N := 7) hx hb hts iw_X3_sheetAt_3 hown hK hP 0 rfl rfl 0 (by decide) (hts (.fieldLink RX3 13 "TownLisp" "sheets" "[LTownLisp$Sheet;") (by decide +kernel)) (fun _ h9 => h9) rfl dX3_sheetAt_14 ?_
  refine lv_iload_n hx hb dX3_sheetAt_17 rfl (lv_at hl 1 rfl) ?_
  refine va_aldq hx hb hK hP 1 1 rfl rfl (in_c (n := 4) (by decide) hk1 hk2) dX3_sheetAt_18 ?_
  refine lv_goto (tgt := 23) hx hb dX3_sheetAt_19 (by decide) ?_
  exact kr_a B hP hS rfl rfl (Or.inr ⟨_, rfl⟩) dX3_sheetAt_23
set_option maxHeartbeats 4000000 in
set_option maxRecDepth 100000 in
theorem c_X3_sheetAt_none (l : Launch) (D : va_G) (cI cO : ClassId) (tF : Nat) (ad : Nat → Nat) (X : XS) (x1 : Int32) (hk : ¬ (0 ≤ x1 ∧ x1 < 4)) : Ct l yX3_sheetAt wsX3_sheetAt ({ frames := 0, cells := 0, slots := 0, locals := 0 }) D cI cO tF [.ref (ad 0), .int x1] (wX ad cI cO X) (some .null) (wX ad cI cO X) := by
  refine Ct.of (cc := cX3_sheetAt) (maxL := 2) (ret := (some (.object "TownLisp$Sheet"))) (own := RX3) (by decide) rfl rfl (Nat.le_of_ble_eq_true rfl) ?_
  intro p e s m args below meth c A ls B hP hD hS hl
  obtain ⟨hx, hb, hr, hml, hts, hown, hlocks, hE, hA⟩ := id B
  have hK := hE.1
  have hl : lv_has ls 2 [(0, .ref (ad 0)), (1, .int x1)] := hl
  refine lv_iload_n hx hb dX3_sheetAt_0 rfl (lv_at hl 1 rfl) ?_
  refine lv_if_lt (tgt := 22) hx hb dX3_sheetAt_1 (by decide) (fun _ => ?_) (fun c_1 => ?_)
  · refine lv_null hx hb dX3_sheetAt_22 ?_
    exact kr_a B hP hS rfl rfl (Or.inl rfl) dX3_sheetAt_23
  · have hk2 : (4 : Int32) ≤ x1 := by
      rw [fa_lt, show (0 : Int32).toInt = 0 from rfl] at c_1
      rw [fa_le, fa_lt, show (0 : Int32).toInt = 0 from rfl] at hk
      rw [fa_le]
      omega
    refine lv_iload_n hx hb dX3_sheetAt_4 rfl (lv_at hl 1 rfl) ?_
    refine lv_aload_n hx hb dX3_sheetAt_5 rfl (lv_at hl 0 rfl) ?_
    refine va_get (D := D) (ci := 3) (v := .ref (ad 1)) (C := RX3) (T := TX3) (N := 7) hx hb hts iw_X3_sheetAt_3 hown hK hP 0 rfl rfl 0 (by decide) (hts (.fieldLink RX3 13 "TownLisp" "sheets" "[LTownLisp$Sheet;") (by decide +kernel)) (fun _ h9 => h9) rfl dX3_sheetAt_6 ?_
    refine va_alen (v := 4) hx hb hK hP 1 1 rfl rfl rfl dX3_sheetAt_9 ?_
    refine lv_icmp_ge (tgt := 22) hx hb dX3_sheetAt_10 (by decide) (fun _ => ?_) (fun h => absurd hk2 h)
    refine lv_null hx hb dX3_sheetAt_22 ?_
    exact kr_a B hP hS rfl rfl (Or.inl rfl) dX3_sheetAt_23
