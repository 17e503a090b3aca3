def fL_X4_readPerson_150 (M : MS) (x1 : Int32) (x3 : Int32) : Nat → MS → Int32 × MS
  | 0, v_M => (0, v_M)
  | k + 1, v_M => (if ((upd (M_read (f_X4_digit v_M x1 (0 : Int32) (1 : Int32)).2) (x3 + (3 : Int32)).toNatClampNeg ((f_X4_digit v_M x1 (0 : Int32) (1 : Int32)).1)) (x3 + (3 : Int32)).toNatClampNeg) = (-9 : Int32) then ((0 : Int32), (M_readPeople' (M_read' (f_X4_digit v_M x1 (0 : Int32) (1 : Int32)).2 (upd (M_read (f_X4_digit v_M x1 (0 : Int32) (1 : Int32)).2) (x3 + (3 : Int32)).toNatClampNeg ((f_X4_digit v_M x1 (0 : Int32) (1 : Int32)).1))) ((M_readPeople (f_X4_digit v_M x1 (0 : Int32) (1 : Int32)).2) + (1 : Int32)))) else ((1 : Int32), (M_readPeople' (M_read' (f_X4_digit v_M x1 (0 : Int32) (1 : Int32)).2 (upd (M_read (f_X4_digit v_M x1 (0 : Int32) (1 : Int32)).2) (x3 + (3 : Int32)).toNatClampNeg ((f_X4_digit v_M x1 (0 : Int32) (1 : Int32)).1))) ((M_readPeople (f_X4_digit v_M x1 (0 : Int32) (1 : Int32)).2) + (1 : Int32)))))
def fL_X4_readPerson_119 (M : MS) (x1 : Int32) (x3 : Int32) : Nat → MS → Int32 × MS
  | 0, v_M => (0, v_M)
  | k + 1, v_M => (if ((upd (M_read (f_X4_digit v_M x1 (1 : Int32) (9 : Int32)).2) (x3 + (2 : Int32)).toNatClampNeg ((f_X4_digit v_M x1 (1 : Int32) (9 : Int32)).1)) (x3 + (2 : Int32)).toNatClampNeg) = (-9 : Int32) then ((0 : Int32), (M_read' (f_X4_digit v_M x1 (1 : Int32) (9 : Int32)).2 (upd (M_read (f_X4_digit v_M x1 (1 : Int32) (9 : Int32)).2) (x3 + (2 : Int32)).toNatClampNeg ((f_X4_digit v_M x1 (1 : Int32) (9 : Int32)).1)))) else fL_X4_readPerson_150 M x1 x3 1 (M_read' (f_X4_digit v_M x1 (1 : Int32) (9 : Int32)).2 (upd (M_read (f_X4_digit v_M x1 (1 : Int32) (9 : Int32)).2) (x3 + (2 : Int32)).toNatClampNeg ((f_X4_digit v_M x1 (1 : Int32) (9 : Int32)).1))))
def fL_X4_readPerson_80 (M : MS) (x1 : Int32) (x3 : Int32) : Nat → MS → Int32 × MS
  | 0, v_M => (0, v_M)
  | k + 1, v_M => (if ((upd (M_read (f_X4_twoDigits (M_at' v_M ((M_at v_M) + (1 : Int32))) x1 (3 : Int32)).2) (x3 + (1 : Int32)).toNatClampNeg ((f_X4_twoDigits (M_at' v_M ((M_at v_M) + (1 : Int32))) x1 (3 : Int32)).1)) (x3 + (1 : Int32)).toNatClampNeg) = (-9 : Int32) then ((0 : Int32), (M_read' (f_X4_twoDigits (M_at' v_M ((M_at v_M) + (1 : Int32))) x1 (3 : Int32)).2 (upd (M_read (f_X4_twoDigits (M_at' v_M ((M_at v_M) + (1 : Int32))) x1 (3 : Int32)).2) (x3 + (1 : Int32)).toNatClampNeg ((f_X4_twoDigits (M_at' v_M ((M_at v_M) + (1 : Int32))) x1 (3 : Int32)).1)))) else fL_X4_readPerson_119 M x1 x3 1 (M_read' (f_X4_twoDigits (M_at' v_M ((M_at v_M) + (1 : Int32))) x1 (3 : Int32)).2 (upd (M_read (f_X4_twoDigits (M_at' v_M ((M_at v_M) + (1 : Int32))) x1 (3 : Int32)).2) (x3 + (1 : Int32)).toNatClampNeg ((f_X4_twoDigits (M_at' v_M ((M_at v_M) + (1 : Int32))) x1 (3 : Int32)).1))))
def f_X4_readPerson (M : MS) (x1 : Int32) : Int32 × MS := (if x1 ≤ (M_at M) then (if ((upd (M_read M) ((4 : Int32) * (M_readPeople M)).toNatClampNeg (-9 : Int32)) ((4 : Int32) * (M_readPeople M)).toNatClampNeg) = (-9 : Int32) then ((0 : Int32), (M_read' M (upd (M_read M) ((4 : Int32) * (M_readPeople M)).toNatClampNeg (-9 : Int32)))) else fL_X4_readPerson_80 M x1 ((4 : Int32) * (M_readPeople M)) 1 (M_read' M (upd (M_read M) ((4 : Int32) * (M_readPeople M)).toNatClampNeg (-9 : Int32)))) else (if ((M_cells M) (M_at M).toNatClampNeg) = (111 : Int32) then (if ((upd (M_read M) ((4 : Int32) * (M_readPeople M)).toNatClampNeg (0 : Int32)) ((4 : Int32) * (M_readPeople M)).toNatClampNeg) = (-9 : Int32) then ((0 : Int32), (M_read' M (upd (M_read M) ((4 : Int32) * (M_readPeople M)).toNatClampNeg (0 : Int32)))) else fL_X4_readPerson_80 M x1 ((4 : Int32) * (M_readPeople M)) 1 (M_read' M (upd (M_read M) ((4 : Int32) * (M_readPeople M)).toNatClampNeg (0 : Int32)))) else (if ((M_cells M) (M_at M).toNatClampNeg) = (115 : Int32) then (if ((upd (M_read M) ((4 : Int32) * (M_readPeople M)).toNatClampNeg (1 : Int32)) ((4 : Int32) * (M_readPeople M)).toNatClampNeg) = (-9 : Int32) then ((0 : Int32), (M_read' M (upd (M_read M) ((4 : Int32) * (M_readPeople M)).toNatClampNeg (1 : Int32)))) else fL_X4_readPerson_80 M x1 ((4 : Int32) * (M_readPeople M)) 1 (M_read' M (upd (M_read M) ((4 : Int32) * (M_readPeople M)).toNatClampNeg (1 : Int32)))) else (if ((M_cells M) (M_at M).toNatClampNeg) = (99 : Int32) then (if ((upd (M_read M) ((4 : Int32) * (M_readPeople M)).toNatClampNeg (2 : Int32)) ((4 : Int32) * (M_readPeople M)).toNatClampNeg) = (-9 : Int32) then ((0 : Int32), (M_read' M (upd (M_read M) ((4 : Int32) * (M_readPeople M)).toNatClampNeg (2 : Int32)))) else fL_X4_readPerson_80 M x1 ((4 : Int32) * (M_readPeople M)) 1 (M_read' M (upd (M_read M) ((4 : Int32) * (M_readPeople M)).toNatClampNeg (2 : Int32)))) else (if ((upd (M_read M) ((4 : Int32) * (M_readPeople M)).toNatClampNeg (-9 : Int32)) ((4 : Int32) * (M_readPeople M)).toNatClampNeg) = (-9 : Int32) then ((0 : Int32), (M_read' M (upd (M_read M) ((4 : Int32) * (M_readPeople M)).toNatClampNeg (-9 : Int32)))) else fL_X4_readPerson_80 M x1 ((4 : Int32) * (M_readPeople M)) 1 (M_read' M (upd (M_read M) ((4 : Int32) * (M_readPeople M)).toNatClampNeg (-9 : Int32))))))))
theorem iw_X4_readPerson_4 : ∀ w ∈ wsX40, w ∈ wsX4_readPerson := fun _ h => List.mem_cons_of_mem _ (List.mem_append_right _ h)
set_option maxHeartbeats 4000000 in
set_option maxRecDepth 100000 in
theorem L_X4_readPerson_150 {p : Program} (l : Launch) {e : Env} {s : State} {m : MethodId} {args : Array Value} {below : List Frame} {meth : Method} {c : Code} {A : Nat → Prop} (D : va_G) (cI cO : ClassId) (tF : Nat) (ad : Nat → Nat) (M : MS) (x1 : Int32) (x3 : Int32) (ha : 0 ≤ (M_at M).toInt) (he : x1.toInt ≤ 240) (hrp : 0 ≤ (M_readPeople M).toInt ∧ (M_readPeople M).toInt ≤ 5) (B : Bx p s m args meth c cX4_readPerson 4 (some .boolean) wsX4_readPerson RX4 D cI cO tF A) (h20 : 0 ≤ x3.toInt ∧ x3.toInt ≤ 20) : ∀ (k : Nat) (v_M : MS), (0 ≤ (M_at v_M).toInt) → (0 < k) → ∀ (H : Heap) (locs : List Loc), va_P D vwCl (wM ad cI v_M) H → va_D A (wM ad cI v_M) → va_S A s.heap H locs → ∀ ls : Array Slot, lv_has ls 4 [(0, .ref (ad 0)), (1, .int x1), (3, .int x3)] → W p l e ({ frames := 3, cells := 0, slots := 0, locals := 69 }) s m args below meth c H locs 0 0 (MQ below (Qp D (some (.int ((fL_X4_readPerson_150 M x1 x3 k v_M).1))) (wM ad cI ((fL_X4_readPerson_150 M x1 x3 k v_M).2)) A) args s 0 0 A) (F0 m 150 ls []) := by
  obtain ⟨hx, hb, hret, hml, hts, hown, hlocks, hE, hA⟩ := id B
  have hK := hE.1
  intro k
  induction k with
  | zero =>
    intro v_M hv hk
    exact absurd hk (Nat.not_lt_zero _)
  | succ k ih =>
    intro v_M hv hk H locs hP hD hS ls hl
    refine lv_aload_n hx hb dX4_readPerson_150 rfl (lv_at hl 0 rfl) ?_
    refine va_get (D := D) (ci := 4) (v := .ref (ad 7)) (C := RX4) (T := TX4) (N := 24) hx hb hts iw_X4_readPerson_4 hown hK hP 0 rfl rfl 15 (by decide) (hts (.fieldLink RX4 28 "TownLispModel" "read" "[I") (by decide +kernel)) (fun _ h9 => h9) rfl dX4_readPerson_151 ?_
    refine lv_iload_n hx hb dX4_readPerson_154 rfl (lv_at hl 2 rfl) ?_
    refine lv_iconst (v := (3 : Int32)) hx hb dX4_readPerson_155 (by decide) ?_
    refine lv_iadd hx hb dX4_readPerson_156 ?_
    refine lv_aload_n hx hb dX4_readPerson_157 rfl (lv_at hl 0 rfl) ?_
    refine lv_iload_n hx hb dX4_readPerson_158 rfl (lv_at hl 1 rfl) ?_
    refine lv_iconst (v := (0 : Int32)) hx hb dX4_readPerson_159 (by decide) ?_
    refine lv_iconst (v := (1 : Int32)) hx hb dX4_readPerson_160 (by decide) ?_
    refine kc_V (As := [.int x1, .int (0 : Int32), .int (1 : Int32)]) (rest := [.int (x3 + (3 : Int32)), .ref (ad 7)]) B (c_X4_digit l D cI cO tF ad v_M x1 (0 : Int32) (1 : Int32) (hv) (he)) (cwV 3 hts gX4_readPerson_X4_digit rfl rfl rfl (by decide +kernel) ⟨Nat.le_of_ble_eq_true rfl, Nat.le_of_ble_eq_true rfl⟩) hP hD hS [0, 1, 2, 3, 4, 5, 6, 7, 8, 9, 10, 11, 12] wM_subA (by decide) (w' := wM ad cI ((f_X4_digit v_M x1 (0 : Int32) (1 : Int32)).2)) (wM_setA _) (wM_fst _) 0 4 rfl rfl rfl rfl hl.1 rfl (Nat.le_of_ble_eq_true rfl) dX4_readPerson_161 ⟨Nat.zero_le _, Nat.zero_le _⟩ (fun H locs hP hD hS => ?_)
    have hD : va_D A (wM ad cI ((f_X4_digit v_M x1 (0 : Int32) (1 : Int32)).2)) := hD
    refine va_iast hx hb hK hP hD hS 7 0 rfl rfl (ix3 (3 : Int32) h20 (by decide)) dX4_readPerson_164 (fun H locs hP hD hS => ?_)
    have hP : va_P D vwCl (wM ad cI (M_read' (f_X4_digit v_M x1 (0 : Int32) (1 : Int32)).2 (upd (M_read (f_X4_digit v_M x1 (0 : Int32) (1 : Int32)).2) (x3 + (3 : Int32)).toNatClampNeg ((f_X4_digit v_M x1 (0 : Int32) (1 : Int32)).1)))) H := hP
    have hD : va_D A (wM ad cI (M_read' (f_X4_digit v_M x1 (0 : Int32) (1 : Int32)).2 (upd (M_read (f_X4_digit v_M x1 (0 : Int32) (1 : Int32)).2) (x3 + (3 : Int32)).toNatClampNeg ((f_X4_digit v_M x1 (0 : Int32) (1 : Int32)).1)))) := hD
    refine lv_aload_n hx hb dX4_readPerson_165 rfl (lv_at hl 0 rfl) ?_
    refine lv_dup hx hb dX4_readPerson_166 rfl ?_
    refine va_get (D := D) (ci := 4) (v := .int (M_readPeople (f_X4_digit v_M x1 (0 : Int32) (1 : Int32)).2)) (C := RX4) (T := TX4) (N := 24) hx hb hts iw_X4_readPerson_4 hown hK hP 0 rfl rfl 14 (by decide) (hts (.fieldLink RX4 93 "TownLispModel" "readPeople" "I") (by decide +kernel)) (fun _ h9 => h9) rfl dX4_readPerson_167 ?_
    refine lv_iconst (v := (1 : Int32)) hx hb dX4_readPerson_170 (by decide) ?_
    refine lv_iadd hx hb dX4_readPerson_171 ?_
    refine va_put (D := D) (ci := 4) (v := .int ((M_readPeople (f_X4_digit v_M x1 (0 : Int32) (1 : Int32)).2) + (1 : Int32))) (ty := .int) (C := RX4) (T := TX4) (N := 24) hx hb hts iw_X4_readPerson_4 tyX4 tyX4_ok nmX4 hown hK hP hD hS 0 rfl rfl 14 (by decide) (hts (.fieldLink RX4 93 "TownLispModel" "readPeople" "I") (by decide +kernel)) (fun _ h9 => h9) rfl (by decide +kernel) rfl rfl (Nat.le_of_ble_eq_true rfl) dX4_readPerson_172 (fun H locs hP hD hS => ?_)
    have hP : va_P D vwCl (wM ad cI (M_readPeople' (M_read' (f_X4_digit v_M x1 (0 : Int32) (1 : Int32)).2 (upd (M_read (f_X4_digit v_M x1 (0 : Int32) (1 : Int32)).2) (x3 + (3 : Int32)).toNatClampNeg ((f_X4_digit v_M x1 (0 : Int32) (1 : Int32)).1))) ((M_readPeople (f_X4_digit v_M x1 (0 : Int32) (1 : Int32)).2) + (1 : Int32)))) H := hP
    have hD : va_D A (wM ad cI (M_readPeople' (M_read' (f_X4_digit v_M x1 (0 : Int32) (1 : Int32)).2 (upd (M_read (f_X4_digit v_M x1 (0 : Int32) (1 : Int32)).2) (x3 + (3 : Int32)).toNatClampNeg ((f_X4_digit v_M x1 (0 : Int32) (1 : Int32)).1))) ((M_readPeople (f_X4_digit v_M x1 (0 : Int32) (1 : Int32)).2) + (1 : Int32)))) := hD
    refine lv_aload_n hx hb dX4_readPerson_175 rfl (lv_at hl 0 rfl) ?_
    refine va_get (D := D) (ci := 4) (v := .ref (ad 7)) (C := RX4) (T := TX4) (N := 24) hx hb hts iw_X4_readPerson_4 hown hK hP 0 rfl rfl 15 (by decide) (hts (.fieldLink RX4 28 "TownLispModel" "read" "[I") (by decide +kernel)) (fun _ h9 => h9) rfl dX4_readPerson_176 ?_
    refine lv_iload_n hx hb dX4_readPerson_179 rfl (lv_at hl 2 rfl) ?_
    refine lv_iconst (v := (3 : Int32)) hx hb dX4_readPerson_180 (by decide) ?_
    refine lv_iadd hx hb dX4_readPerson_181 ?_
    refine va_iald hx hb hK hP 7 0 rfl rfl (ix3 (3 : Int32) h20 (by decide)) dX4_readPerson_182 ?_
    refine lv_bipush (v := (-9 : Int32)) hx hb dX4_readPerson_183 (by decide) ?_
    refine lv_icmp_eq (tgt := 192) hx hb dX4_readPerson_185 (by decide) (fun c_185 => ?_) (fun c_185 => ?_)
    · refine lv_iconst (v := (0 : Int32)) hx hb dX4_readPerson_192 (by decide) ?_
      have hF : fL_X4_readPerson_150 M x1 x3 (k + 1) v_M = ((0 : Int32), (M_readPeople' (M_read' (f_X4_digit v_M x1 (0 : Int32) (1 : Int32)).2 (upd (M_read (f_X4_digit v_M x1 (0 : Int32) (1 : Int32)).2) (x3 + (3 : Int32)).toNatClampNeg ((f_X4_digit v_M x1 (0 : Int32) (1 : Int32)).1))) ((M_readPeople (f_X4_digit v_M x1 (0 : Int32) (1 : Int32)).2) + (1 : Int32)))) := by rw [fL_X4_readPerson_150, if_pos c_185]
      rw [hF]
      exact kr_z B hP hS rfl rfl (Or.inl rfl) dX4_readPerson_193
    · refine lv_iconst (v := (1 : Int32)) hx hb dX4_readPerson_188 (by decide) ?_
      refine lv_goto (tgt := 193) hx hb dX4_readPerson_189 (by decide) ?_
      have hF : fL_X4_readPerson_150 M x1 x3 (k + 1) v_M = ((1 : Int32), (M_readPeople' (M_read' (f_X4_digit v_M x1 (0 : Int32) (1 : Int32)).2 (upd (M_read (f_X4_digit v_M x1 (0 : Int32) (1 : Int32)).2) (x3 + (3 : Int32)).toNatClampNeg ((f_X4_digit v_M x1 (0 : Int32) (1 : Int32)).1))) ((M_readPeople (f_X4_digit v_M x1 (0 : Int32) (1 : Int32)).2) + (1 : Int32)))) := by rw [fL_X4_readPerson_150, if_neg c_185]
      rw [hF]
      exact kr_z B hP hS rfl rfl (Or.inr rfl) dX4_readPerson_193
set_option maxHeartbeats 4000000 in
set_option maxRecDepth 100000 in
theorem L_X4_readPerson_119 {p : Program} (l : Launch) {e : Env} {s : State} {m : MethodId} {args : Array Value} {below : List Frame} {meth : Method} {c : Code} {A : Nat → Prop} (D : va_G) (cI cO : ClassId) (tF : Nat) (ad : Nat → Nat) (M : MS) (x1 : Int32) (x3 : Int32) (ha : 0 ≤ (M_at M).toInt) (he : x1.toInt ≤ 240) (hrp : 0 ≤ (M_readPeople M).toInt ∧ (M_readPeople M).toInt ≤ 5) (B : Bx p s m args meth c cX4_readPerson 4 (some .boolean) wsX4_readPerson RX4 D cI cO tF A) (h20 : 0 ≤ x3.toInt ∧ x3.toInt ≤ 20) : ∀ (k : Nat) (v_M : MS), (0 ≤ (M_at v_M).toInt) → (0 < k) → ∀ (H : Heap) (locs : List Loc), va_P D vwCl (wM ad cI v_M) H → va_D A (wM ad cI v_M) → va_S A s.heap H locs → ∀ ls : Array Slot, lv_has ls 4 [(0, .ref (ad 0)), (1, .int x1), (3, .int x3)] → W p l e ({ frames := 3, cells := 0, slots := 0, locals := 69 }) s m args below meth c H locs 0 0 (MQ below (Qp D (some (.int ((fL_X4_readPerson_119 M x1 x3 k v_M).1))) (wM ad cI ((fL_X4_readPerson_119 M x1 x3 k v_M).2)) A) args s 0 0 A) (F0 m 119 ls []) := by
  obtain ⟨hx, hb, hret, hml, hts, hown, hlocks, hE, hA⟩ := id B
  have hK := hE.1
  intro k
  induction k with
  | zero =>
    intro v_M hv hk
    exact absurd hk (Nat.not_lt_zero _)
  | succ k ih =>
    intro v_M hv hk H locs hP hD hS ls hl
    refine lv_aload_n hx hb dX4_readPerson_119 rfl (lv_at hl 0 rfl) ?_
    refine va_get (D := D) (ci := 4) (v := .ref (ad 7)) (C := RX4) (T := TX4) (N := 24) hx hb hts iw_X4_readPerson_4 hown hK hP 0 rfl rfl 15 (by decide) (hts (.fieldLink RX4 28 "TownLispModel" "read" "[I") (by decide +kernel)) (fun _ h9 => h9) rfl dX4_readPerson_120 ?_
    refine lv_iload_n hx hb dX4_readPerson_123 rfl (lv_at hl 2 rfl) ?_
    refine lv_iconst (v := (2 : Int32)) hx hb dX4_readPerson_124 (by decide) ?_
    refine lv_iadd hx hb dX4_readPerson_125 ?_
    refine lv_aload_n hx hb dX4_readPerson_126 rfl (lv_at hl 0 rfl) ?_
    refine lv_iload_n hx hb dX4_readPerson_127 rfl (lv_at hl 1 rfl) ?_
    refine lv_iconst (v := (1 : Int32)) hx hb dX4_readPerson_128 (by decide) ?_
    refine lv_bipush (v := (9 : Int32)) hx hb dX4_readPerson_129 (by decide) ?_
    refine kc_V (As := [.int x1, .int (1 : Int32), .int (9 : Int32)]) (rest := [.int (x3 + (2 : Int32)), .ref (ad 7)]) B (c_X4_digit l D cI cO tF ad v_M x1 (1 : Int32) (9 : Int32) (hv) (he)) (cwV 3 hts gX4_readPerson_X4_digit rfl rfl rfl (by decide +kernel) ⟨Nat.le_of_ble_eq_true rfl, Nat.le_of_ble_eq_true rfl⟩) hP hD hS [0, 1, 2, 3, 4, 5, 6, 7, 8, 9, 10, 11, 12] wM_subA (by decide) (w' := wM ad cI ((f_X4_digit v_M x1 (1 : Int32) (9 : Int32)).2)) (wM_setA _) (wM_fst _) 0 4 rfl rfl rfl rfl hl.1 rfl (Nat.le_of_ble_eq_true rfl) dX4_readPerson_131 ⟨Nat.zero_le _, Nat.zero_le _⟩ (fun H locs hP hD hS => ?_)
    have hD : va_D A (wM ad cI ((f_X4_digit v_M x1 (1 : Int32) (9 : Int32)).2)) := hD
    refine va_iast hx hb hK hP hD hS 7 0 rfl rfl (ix3 (2 : Int32) h20 (by decide)) dX4_readPerson_134 (fun H locs hP hD hS => ?_)
    have hP : va_P D vwCl (wM ad cI (M_read' (f_X4_digit v_M x1 (1 : Int32) (9 : Int32)).2 (upd (M_read (f_X4_digit v_M x1 (1 : Int32) (9 : Int32)).2) (x3 + (2 : Int32)).toNatClampNeg ((f_X4_digit v_M x1 (1 : Int32) (9 : Int32)).1)))) H := hP
    have hD : va_D A (wM ad cI (M_read' (f_X4_digit v_M x1 (1 : Int32) (9 : Int32)).2 (upd (M_read (f_X4_digit v_M x1 (1 : Int32) (9 : Int32)).2) (x3 + (2 : Int32)).toNatClampNeg ((f_X4_digit v_M x1 (1 : Int32) (9 : Int32)).1)))) := hD
    refine lv_aload_n hx hb dX4_readPerson_135 rfl (lv_at hl 0 rfl) ?_
    refine va_get (D := D) (ci := 4) (v := .ref (ad 7)) (C := RX4) (T := TX4) (N := 24) hx hb hts iw_X4_readPerson_4 hown hK hP 0 rfl rfl 15 (by decide) (hts (.fieldLink RX4 28 "TownLispModel" "read" "[I") (by decide +kernel)) (fun _ h9 => h9) rfl dX4_readPerson_136 ?_
    refine lv_iload_n hx hb dX4_readPerson_139 rfl (lv_at hl 2 rfl) ?_
    refine lv_iconst (v := (2 : Int32)) hx hb dX4_readPerson_140 (by decide) ?_
    refine lv_iadd hx hb dX4_readPerson_141 ?_
    refine va_iald hx hb hK hP 7 0 rfl rfl (ix3 (2 : Int32) h20 (by decide)) dX4_readPerson_142 ?_
    refine lv_bipush (v := (-9 : Int32)) hx hb dX4_readPerson_143 (by decide) ?_
    refine lv_icmp_ne (tgt := 150) hx hb dX4_readPerson_145 (by decide) (fun c_145 => ?_) (fun c_145 => ?_)
    · have hF : fL_X4_readPerson_119 M x1 x3 (k + 1) v_M = fL_X4_readPerson_150 M x1 x3 1 (M_read' (f_X4_digit v_M x1 (1 : Int32) (9 : Int32)).2 (upd (M_read (f_X4_digit v_M x1 (1 : Int32) (9 : Int32)).2) (x3 + (2 : Int32)).toNatClampNeg ((f_X4_digit v_M x1 (1 : Int32) (9 : Int32)).1))) := by rw [fL_X4_readPerson_119, if_neg c_145]
      rw [hF]
      exact L_X4_readPerson_150 l D cI cO tF ad M x1 x3 ha he hrp B (by first | exact h20 | exact rp_20 hrp) 1 (M_read' (f_X4_digit v_M x1 (1 : Int32) (9 : Int32)).2 (upd (M_read (f_X4_digit v_M x1 (1 : Int32) (9 : Int32)).2) (x3 + (2 : Int32)).toNatClampNeg ((f_X4_digit v_M x1 (1 : Int32) (9 : Int32)).1))) (dg_at (M := v_M) (e := x1) (a := (1 : Int32)) (b := (9 : Int32)) hv he) (Nat.one_pos) _ _ hP hD hS ls (lv_sub hl [0, 1, 2] rfl)
    · refine lv_iconst (v := (0 : Int32)) hx hb dX4_readPerson_148 (by decide) ?_
      have hF : fL_X4_readPerson_119 M x1 x3 (k + 1) v_M = ((0 : Int32), (M_read' (f_X4_digit v_M x1 (1 : Int32) (9 : Int32)).2 (upd (M_read (f_X4_digit v_M x1 (1 : Int32) (9 : Int32)).2) (x3 + (2 : Int32)).toNatClampNeg ((f_X4_digit v_M x1 (1 : Int32) (9 : Int32)).1)))) := by rw [fL_X4_readPerson_119, if_pos c_145]
      rw [hF]
      exact kr_z B hP hS rfl rfl (Or.inl rfl) dX4_readPerson_149
set_option maxHeartbeats 4000000 in
set_option maxRecDepth 100000 in
theorem L_X4_readPerson_80 {p : Program} (l : Launch) {e : Env} {s : State} {m : MethodId} {args : Array Value} {below : List Frame} {meth : Method} {c : Code} {A : Nat → Prop} (D : va_G) (cI cO : ClassId) (tF : Nat) (ad : Nat → Nat) (M : MS) (x1 : Int32) (x3 : Int32) (ha : 0 ≤ (M_at M).toInt) (he : x1.toInt ≤ 240) (hrp : 0 ≤ (M_readPeople M).toInt ∧ (M_readPeople M).toInt ≤ 5) (B : Bx p s m args meth c cX4_readPerson 4 (some .boolean) wsX4_readPerson RX4 D cI cO tF A) (h20 : 0 ≤ x3.toInt ∧ x3.toInt ≤ 20) : ∀ (k : Nat) (v_M : MS), (0 ≤ ((M_at v_M) + (1 : Int32)).toInt) → (0 < k) → ∀ (H : Heap) (locs : List Loc), va_P D vwCl (wM ad cI v_M) H → va_D A (wM ad cI v_M) → va_S A s.heap H locs → ∀ ls : Array Slot, lv_has ls 4 [(0, .ref (ad 0)), (1, .int x1), (3, .int x3)] → W p l e ({ frames := 3, cells := 0, slots := 0, locals := 69 }) s m args below meth c H locs 0 0 (MQ below (Qp D (some (.int ((fL_X4_readPerson_80 M x1 x3 k v_M).1))) (wM ad cI ((fL_X4_readPerson_80 M x1 x3 k v_M).2)) A) args s 0 0 A) (F0 m 80 ls []) := by
  obtain ⟨hx, hb, hret, hml, hts, hown, hlocks, hE, hA⟩ := id B
  have hK := hE.1
  intro k
  induction k with
  | zero =>
    intro v_M hv hk
    exact absurd hk (Nat.not_lt_zero _)
  | succ k ih =>
    intro v_M hv hk H locs hP hD hS ls hl
    refine lv_aload_n hx hb dX4_readPerson_80 rfl (lv_at hl 0 rfl) ?_
    refine lv_dup hx hb dX4_readPerson_81 rfl ?_
    refine va_get (D := D) (ci := 4) (v := .int (M_at v_M)) (C := RX4) (T := TX4) (N := 24) hx hb hts iw_X4_readPerson_4 hown hK hP 0 rfl rfl 12 (by decide) (hts (.fieldLink RX4 59 "TownLispModel" "at" "I") (by decide +kernel)) (fun _ h9 => h9) rfl dX4_readPerson_82 ?_
    refine lv_iconst (v := (1 : Int32)) hx hb dX4_readPerson_85 (by decide) ?_
    refine lv_iadd hx hb dX4_readPerson_86 ?_
    refine va_put (D := D) (ci := 4) (v := .int ((M_at v_M) + (1 : Int32))) (ty := .int) (C := RX4) (T := TX4) (N := 24) hx hb hts iw_X4_readPerson_4 tyX4 tyX4_ok nmX4 hown hK hP hD hS 0 rfl rfl 12 (by decide) (hts (.fieldLink RX4 59 "TownLispModel" "at" "I") (by decide +kernel)) (fun _ h9 => h9) rfl (by decide +kernel) rfl rfl (Nat.le_of_ble_eq_true rfl) dX4_readPerson_87 (fun H locs hP hD hS => ?_)
    have hP : va_P D vwCl (wM ad cI (M_at' v_M ((M_at v_M) + (1 : Int32)))) H := hP
    have hD : va_D A (wM ad cI (M_at' v_M ((M_at v_M) + (1 : Int32)))) := hD
    refine lv_aload_n hx hb dX4_readPerson_90 rfl (lv_at hl 0 rfl) ?_
    refine va_get (D := D) (ci := 4) (v := .ref (ad 7)) (C := RX4) (T := TX4) (N := 24) hx hb hts iw_X4_readPerson_4 hown hK hP 0 rfl rfl 15 (by decide) (hts (.fieldLink RX4 28 "TownLispModel" "read" "[I") (by decide +kernel)) (fun _ h9 => h9) rfl dX4_readPerson_91 ?_
    refine lv_iload_n hx hb dX4_readPerson_94 rfl (lv_at hl 2 rfl) ?_
    refine lv_iconst (v := (1 : Int32)) hx hb dX4_readPerson_95 (by decide) ?_
    refine lv_iadd hx hb dX4_readPerson_96 ?_
    refine lv_aload_n hx hb dX4_readPerson_97 rfl (lv_at hl 0 rfl) ?_
    refine lv_iload_n hx hb dX4_readPerson_98 rfl (lv_at hl 1 rfl) ?_
    refine lv_iconst (v := (3 : Int32)) hx hb dX4_readPerson_99 (by decide) ?_
    refine kc_V (As := [.int x1, .int (3 : Int32)]) (rest := [.int (x3 + (1 : Int32)), .ref (ad 7)]) B (c_X4_twoDigits l D cI cO tF ad (M_at' v_M ((M_at v_M) + (1 : Int32))) x1 (3 : Int32) (hv) (he)) (cwV 2 hts gX4_readPerson_X4_twoDigits rfl rfl rfl (by decide +kernel) ⟨Nat.le_of_ble_eq_true rfl, Nat.le_of_ble_eq_true rfl⟩) hP hD hS [0, 1, 2, 3, 4, 5, 6, 7, 8, 9, 10, 11, 12] wM_subA (by decide) (w' := wM ad cI ((f_X4_twoDigits (M_at' v_M ((M_at v_M) + (1 : Int32))) x1 (3 : Int32)).2)) (wM_setA _) (wM_fst _) 0 4 rfl rfl rfl rfl hl.1 rfl (Nat.le_of_ble_eq_true rfl) dX4_readPerson_100 ⟨Nat.zero_le _, Nat.zero_le _⟩ (fun H locs hP hD hS => ?_)
    have hD : va_D A (wM ad cI ((f_X4_twoDigits (M_at' v_M ((M_at v_M) + (1 : Int32))) x1 (3 : Int32)).2)) := hD
    refine va_iast hx hb hK hP hD hS 7 0 rfl rfl (ix3 (1 : Int32) h20 (by decide)) dX4_readPerson_103 (fun H locs hP hD hS => ?_)
    have hP : va_P D vwCl (wM ad cI (M_read' (f_X4_twoDigits (M_at' v_M ((M_at v_M) + (1 : Int32))) x1 (3 : Int32)).2 (upd (M_read (f_X4_twoDigits (M_at' v_M ((M_at v_M) + (1 : Int32))) x1 (3 : Int32)).2) (x3 + (1 : Int32)).toNatClampNeg ((f_X4_twoDigits (M_at' v_M ((M_at v_M) + (1 : Int32))) x1 (3 : Int32)).1)))) H := hP
    have hD : va_D A (wM ad cI (M_read' (f_X4_twoDigits (M_at' v_M ((M_at v_M) + (1 : Int32))) x1 (3 : Int32)).2 (upd (M_read (f_X4_twoDigits (M_at' v_M ((M_at v_M) + (1 : Int32))) x1 (3 : Int32)).2) (x3 + (1 : Int32)).toNatClampNeg ((f_X4_twoDigits (M_at' v_M ((M_at v_M) + (1 : Int32))) x1 (3 : Int32)).1)))) := hD
    refine lv_aload_n hx hb dX4_readPerson_104 rfl (lv_at hl 0 rfl) ?_
    refine va_get (D := D) (ci := 4) (v := .ref (ad 7)) (C := RX4) (T := TX4) (N := 24) hx hb hts iw_X4_readPerson_4 hown hK hP 0 rfl rfl 15 (by decide) (hts (.fieldLink RX4 28 "TownLispModel" "read" "[I") (by decide +kernel)) (fun _ h9 => h9) rfl dX4_readPerson_105 ?_
    refine lv_iload_n hx hb dX4_readPerson_108 rfl (lv_at hl 2 rfl) ?_
    refine lv_iconst (v := (1 : Int32)) hx hb dX4_readPerson_109 (by decide) ?_
    refine lv_iadd hx hb dX4_readPerson_110 ?_
    refine va_iald hx hb hK hP 7 0 rfl rfl (ix3 (1 : Int32) h20 (by decide)) dX4_readPerson_111 ?_
    refine lv_bipush (v := (-9 : Int32)) hx hb dX4_readPerson_112 (by decide) ?_
    refine lv_icmp_ne (tgt := 119) hx hb dX4_readPerson_114 (by decide) (fun c_114 => ?_) (fun c_114 => ?_)
    · have hF : fL_X4_readPerson_80 M x1 x3 (k + 1) v_M = fL_X4_readPerson_119 M x1 x3 1 (M_read' (f_X4_twoDigits (M_at' v_M ((M_at v_M) + (1 : Int32))) x1 (3 : Int32)).2 (upd (M_read (f_X4_twoDigits (M_at' v_M ((M_at v_M) + (1 : Int32))) x1 (3 : Int32)).2) (x3 + (1 : Int32)).toNatClampNeg ((f_X4_twoDigits (M_at' v_M ((M_at v_M) + (1 : Int32))) x1 (3 : Int32)).1))) := by rw [fL_X4_readPerson_80, if_neg c_114]
      rw [hF]
      exact L_X4_readPerson_119 l D cI cO tF ad M x1 x3 ha he hrp B (by first | exact h20 | exact rp_20 hrp) 1 (M_read' (f_X4_twoDigits (M_at' v_M ((M_at v_M) + (1 : Int32))) x1 (3 : Int32)).2 (upd (M_read (f_X4_twoDigits (M_at' v_M ((M_at v_M) + (1 : Int32))) x1 (3 : Int32)).2) (x3 + (1 : Int32)).toNatClampNeg ((f_X4_twoDigits (M_at' v_M ((M_at v_M) + (1 : Int32))) x1 (3 : Int32)).1))) (td_at (M := M_at' v_M ((M_at v_M) + (1 : Int32))) (e := x1) (x := (3 : Int32)) hv he) (Nat.one_pos) _ _ hP hD hS ls (lv_sub hl [0, 1, 2] rfl)
    · refine lv_iconst (v := (0 : Int32)) hx hb dX4_readPerson_117 (by decide) ?_
      have hF : fL_X4_readPerson_80 M x1 x3 (k + 1) v_M = ((0 : Int32), (M_read' (f_X4_twoDigits (M_at' v_M ((M_at v_M) + (1 : Int32))) x1 (3 : Int32)).2 (upd (M_read (f_X4_twoDigits (M_at' v_M ((M_at v_M) + (1 : Int32))) x1 (3 : Int32)).2) (x3 + (1 : Int32)).toNatClampNeg ((f_X4_twoDigits (M_at' v_M ((M_at v_M) + (1 : Int32))) x1 (3 : Int32)).1)))) := by rw [fL_X4_readPerson_80, if_pos c_114]
      rw [hF]
      exact kr_z B hP hS rfl rfl (Or.inl rfl) dX4_readPerson_118
set_option maxHeartbeats 4000000 in
set_option maxRecDepth 100000 in
theorem c_X4_readPerson (l : Launch) (D : va_G) (cI cO : ClassId) (tF : Nat) (ad : Nat → Nat) (M : MS) (x1 : Int32) (ha : 0 ≤ (M_at M).toInt) (he : x1.toInt ≤ 240) (hrp : 0 ≤ (M_readPeople M).toInt ∧ (M_readPeople M).toInt ≤ 5) : Ct l yX4_readPerson wsX4_readPerson ({ frames := 3, cells := 0, slots := 0, locals := 69 }) D cI cO tF [.ref (ad 0), .int x1] (wM ad cI M) (some (.int ((f_X4_readPerson M x1).1))) (wM ad cI ((f_X4_readPerson M x1).2)) := by
  refine Ct.of (cc := cX4_readPerson) (maxL := 4) (ret := (some .boolean)) (own := RX4) (by decide) rfl rfl (Nat.le_of_ble_eq_true rfl) ?_
  intro p e s m args below meth c A ls B hP hD hS hl
  obtain ⟨hx, hb, hret, hml, hts, hown, hlocks, hE, hA⟩ := id B
  have hK := hE.1
  have hl : lv_has ls 4 [(0, .ref (ad 0)), (1, .int x1)] := hl
  refine lv_aload_n hx hb dX4_readPerson_0 rfl (lv_at hl 0 rfl) ?_
  refine va_get (D := D) (ci := 4) (v := .int (M_at M)) (C := RX4) (T := TX4) (N := 24) hx hb hts iw_X4_readPerson_4 hown hK hP 0 rfl rfl 12 (by decide) (hts (.fieldLink RX4 59 "TownLispModel" "at" "I") (by decide +kernel)) (fun _ h9 => h9) rfl dX4_readPerson_1 ?_
  refine lv_iload_n hx hb dX4_readPerson_4 rfl (lv_at hl 1 rfl) ?_
  refine lv_icmp_ge (tgt := 20) hx hb dX4_readPerson_5 (by decide) (fun c_5 => ?_) (fun c_5 => ?_)
  · refine lv_iconst (v := (0 : Int32)) hx hb dX4_readPerson_20 (by decide) ?_
    refine lv_istore_n (lv' := [(2, .int (0 : Int32)), (0, .ref (ad 0)), (1, .int x1)]) hx hb dX4_readPerson_21 rfl hl (by decide) rfl (fun ls hl => ?_)
    refine lv_iconst (v := (4 : Int32)) hx hb dX4_readPerson_22 (by decide) ?_
    refine lv_aload_n hx hb dX4_readPerson_23 rfl (lv_at hl 1 rfl) ?_
    refine va_get (D := D) (ci := 4) (v := .int (M_readPeople M)) (C := RX4) (T := TX4) (N := 24) hx hb hts iw_X4_readPerson_4 hown hK hP 0 rfl rfl 14 (by decide) (hts (.fieldLink RX4 93 "TownLispModel" "readPeople" "I") (by decide +kernel)) (fun _ h9 => h9) rfl dX4_readPerson_24 ?_
    refine lv_imul hx hb dX4_readPerson_27 ?_
    refine lv_istore_n (lv' := [(3, .int ((4 : Int32) * (M_readPeople M))), (2, .int (0 : Int32)), (0, .ref (ad 0)), (1, .int x1)]) hx hb dX4_readPerson_28 rfl hl (by decide) rfl (fun ls hl => ?_)
    refine lv_aload_n hx hb dX4_readPerson_29 rfl (lv_at hl 2 rfl) ?_
    refine va_get (D := D) (ci := 4) (v := .ref (ad 7)) (C := RX4) (T := TX4) (N := 24) hx hb hts iw_X4_readPerson_4 hown hK hP 0 rfl rfl 15 (by decide) (hts (.fieldLink RX4 28 "TownLispModel" "read" "[I") (by decide +kernel)) (fun _ h9 => h9) rfl dX4_readPerson_30 ?_
    refine lv_iload_n hx hb dX4_readPerson_33 rfl (lv_at hl 0 rfl) ?_
    refine lv_iload_n hx hb dX4_readPerson_34 rfl (lv_at hl 1 rfl) ?_
    refine lv_bipush (v := (111 : Int32)) hx hb dX4_readPerson_35 (by decide) ?_
    refine lv_icmp_ne (tgt := 44) hx hb dX4_readPerson_37 (by decide) (fun _ => ?_) (fun h => absurd h (by decide))
    refine lv_iload_n hx hb dX4_readPerson_44 rfl (lv_at hl 1 rfl) ?_
    refine lv_bipush (v := (115 : Int32)) hx hb dX4_readPerson_45 (by decide) ?_
    refine lv_icmp_ne (tgt := 54) hx hb dX4_readPerson_47 (by decide) (fun _ => ?_) (fun h => absurd h (by decide))
    refine lv_iload_n hx hb dX4_readPerson_54 rfl (lv_at hl 1 rfl) ?_
    refine lv_bipush (v := (99 : Int32)) hx hb dX4_readPerson_55 (by decide) ?_
    refine lv_icmp_ne (tgt := 64) hx hb dX4_readPerson_57 (by decide) (fun _ => ?_) (fun h => absurd h (by decide))
    refine lv_bipush (v := (-9 : Int32)) hx hb dX4_readPerson_64 (by decide) ?_
    refine va_iast hx hb hK hP hD hS 7 0 rfl rfl (rp_in hrp) dX4_readPerson_66 (fun H locs hP hD hS => ?_)
    have hP : va_P D vwCl (wM ad cI (M_read' M (upd (M_read M) ((4 : Int32) * (M_readPeople M)).toNatClampNeg (-9 : Int32)))) H := hP
    have hD : va_D A (wM ad cI (M_read' M (upd (M_read M) ((4 : Int32) * (M_readPeople M)).toNatClampNeg (-9 : Int32)))) := hD
    refine lv_aload_n hx hb dX4_readPerson_67 rfl (lv_at hl 2 rfl) ?_
    refine va_get (D := D) (ci := 4) (v := .ref (ad 7)) (C := RX4) (T := TX4) (N := 24) hx hb hts iw_X4_readPerson_4 hown hK hP 0 rfl rfl 15 (by decide) (hts (.fieldLink RX4 28 "TownLispModel" "read" "[I") (by decide +kernel)) (fun _ h9 => h9) rfl dX4_readPerson_68 ?_
    refine lv_iload_n hx hb dX4_readPerson_71 rfl (lv_at hl 0 rfl) ?_
    refine va_iald hx hb hK hP 7 0 rfl rfl (rp_in hrp) dX4_readPerson_72 ?_
    refine lv_bipush (v := (-9 : Int32)) hx hb dX4_readPerson_73 (by decide) ?_
    refine lv_icmp_ne (tgt := 80) hx hb dX4_readPerson_75 (by decide) (fun c_75 => ?_) (fun c_75 => ?_)
    · have hF : f_X4_readPerson M x1 = fL_X4_readPerson_80 M x1 ((4 : Int32) * (M_readPeople M)) 1 (M_read' M (upd (M_read M) ((4 : Int32) * (M_readPeople M)).toNatClampNeg (-9 : Int32))) := by rw [f_X4_readPerson, if_pos c_5, if_neg c_75]
      rw [hF]
      exact L_X4_readPerson_80 l D cI cO tF ad M x1 ((4 : Int32) * (M_readPeople M)) ha he hrp B (by first | exact h20 | exact rp_20 hrp) 1 (M_read' M (upd (M_read M) ((4 : Int32) * (M_readPeople M)).toNatClampNeg (-9 : Int32))) (by first | exact at_s ha he c_5 | exact absurd pk_us c_75) (Nat.one_pos) _ _ hP hD hS ls (lv_sub hl [2, 3, 0] rfl)
    · refine lv_iconst (v := (0 : Int32)) hx hb dX4_readPerson_78 (by decide) ?_
      have hF : f_X4_readPerson M x1 = ((0 : Int32), (M_read' M (upd (M_read M) ((4 : Int32) * (M_readPeople M)).toNatClampNeg (-9 : Int32)))) := by rw [f_X4_readPerson, if_pos c_5, if_pos c_75]
      rw [hF]
      exact kr_z B hP hS rfl rfl (Or.inl rfl) dX4_readPerson_79
  · refine lv_aload_n hx hb dX4_readPerson_8 rfl (lv_at hl 0 rfl) ?_
    refine va_get (D := D) (ci := 4) (v := .ref (ad 3)) (C := RX4) (T := TX4) (N := 24) hx hb hts iw_X4_readPerson_4 hown hK hP 0 rfl rfl 4 (by decide) (hts (.fieldLink RX4 16 "TownLispModel" "cells" "[I") (by decide +kernel)) (fun _ h9 => h9) rfl dX4_readPerson_9 ?_
    refine lv_aload_n hx hb dX4_readPerson_12 rfl (lv_at hl 0 rfl) ?_
    refine va_get (D := D) (ci := 4) (v := .int (M_at M)) (C := RX4) (T := TX4) (N := 24) hx hb hts iw_X4_readPerson_4 hown hK hP 0 rfl rfl 12 (by decide) (hts (.fieldLink RX4 59 "TownLispModel" "at" "I") (by decide +kernel)) (fun _ h9 => h9) rfl dX4_readPerson_13 ?_
    refine va_iald hx hb hK hP 3 0 rfl rfl (lp_in ha he c_5) dX4_readPerson_16 ?_
    refine lv_goto (tgt := 21) hx hb dX4_readPerson_17 (by decide) ?_
    refine lv_istore_n (lv' := [(2, .int ((M_cells M) (M_at M).toNatClampNeg)), (0, .ref (ad 0)), (1, .int x1)]) hx hb dX4_readPerson_21 rfl hl (by decide) rfl (fun ls hl => ?_)
    refine lv_iconst (v := (4 : Int32)) hx hb dX4_readPerson_22 (by decide) ?_
    refine lv_aload_n hx hb dX4_readPerson_23 rfl (lv_at hl 1 rfl) ?_
    refine va_get (D := D) (ci := 4) (v := .int (M_readPeople M)) (C := RX4) (T := TX4) (N := 24) hx hb hts iw_X4_readPerson_4 hown hK hP 0 rfl rfl 14 (by decide) (hts (.fieldLink RX4 93 "TownLispModel" "readPeople" "I") (by decide +kernel)) (fun _ h9 => h9) rfl dX4_readPerson_24 ?_
    refine lv_imul hx hb dX4_readPerson_27 ?_
    refine lv_istore_n (lv' := [(3, .int ((4 : Int32) * (M_readPeople M))), (2, .int ((M_cells M) (M_at M).toNatClampNeg)), (0, .ref (ad 0)), (1, .int x1)]) hx hb dX4_readPerson_28 rfl hl (by decide) rfl (fun ls hl => ?_)
    refine lv_aload_n hx hb dX4_readPerson_29 rfl (lv_at hl 2 rfl) ?_
    refine va_get (D := D) (ci := 4) (v := .ref (ad 7)) (C := RX4) (T := TX4) (N := 24) hx hb hts iw_X4_readPerson_4 hown hK hP 0 rfl rfl 15 (by decide) (hts (.fieldLink RX4 28 "TownLispModel" "read" "[I") (by decide +kernel)) (fun _ h9 => h9) rfl dX4_readPerson_30 ?_
    refine lv_iload_n hx hb dX4_readPerson_33 rfl (lv_at hl 0 rfl) ?_
    refine lv_iload_n hx hb dX4_readPerson_34 rfl (lv_at hl 1 rfl) ?_
    refine lv_bipush (v := (111 : Int32)) hx hb dX4_readPerson_35 (by decide) ?_
    refine lv_icmp_ne (tgt := 44) hx hb dX4_readPerson_37 (by decide) (fun c_37 => ?_) (fun c_37 => ?_)
    · refine lv_iload_n hx hb dX4_readPerson_44 rfl (lv_at hl 1 rfl) ?_
      refine lv_bipush (v := (115 : Int32)) hx hb dX4_readPerson_45 (by decide) ?_
      refine lv_icmp_ne (tgt := 54) hx hb dX4_readPerson_47 (by decide) (fun c_47 => ?_) (fun c_47 => ?_)
      · refine lv_iload_n hx hb dX4_readPerson_54 rfl (lv_at hl 1 rfl) ?_
        refine lv_bipush (v := (99 : Int32)) hx hb dX4_readPerson_55 (by decide) ?_
        refine lv_icmp_ne (tgt := 64) hx hb dX4_readPerson_57 (by decide) (fun c_57 => ?_) (fun c_57 => ?_)
        · refine lv_bipush (v := (-9 : Int32)) hx hb dX4_readPerson_64 (by decide) ?_
          refine va_iast hx hb hK hP hD hS 7 0 rfl rfl (rp_in hrp) dX4_readPerson_66 (fun H locs hP hD hS => ?_)
          have hP : va_P D vwCl (wM ad cI (M_read' M (upd (M_read M) ((4 : Int32) * (M_readPeople M)).toNatClampNeg (-9 : Int32)))) H := hP
          have hD : va_D A (wM ad cI (M_read' M (upd (M_read M) ((4 : Int32) * (M_readPeople M)).toNatClampNeg (-9 : Int32)))) := hD
          refine lv_aload_n hx hb dX4_readPerson_67 rfl (lv_at hl 2 rfl) ?_
          refine va_get (D := D) (ci := 4) (v := .ref (ad 7)) (C := RX4) (T := TX4) (N := 24) hx hb hts iw_X4_readPerson_4 hown hK hP 0 rfl rfl 15 (by decide) (hts (.fieldLink RX4 28 "TownLispModel" "read" "[I") (by decide +kernel)) (fun _ h9 => h9) rfl dX4_readPerson_68 ?_
          refine lv_iload_n hx hb dX4_readPerson_71 rfl (lv_at hl 0 rfl) ?_
          refine va_iald hx hb hK hP 7 0 rfl rfl (rp_in hrp) dX4_readPerson_72 ?_
          refine lv_bipush (v := (-9 : Int32)) hx hb dX4_readPerson_73 (by decide) ?_
          refine lv_icmp_ne (tgt := 80) hx hb dX4_readPerson_75 (by decide) (fun c_75 => ?_) (fun c_75 => ?_)
          · have hF : f_X4_readPerson M x1 = fL_X4_readPerson_80 M x1 ((4 : Int32) * (M_readPeople M)) 1 (M_read' M (upd (M_read M) ((4 : Int32) * (M_readPeople M)).toNatClampNeg (-9 : Int32))) := by rw [f_X4_readPerson, if_neg c_5, if_neg c_37, if_neg c_47, if_neg c_57, if_neg c_75]
            rw [hF]
            exact L_X4_readPerson_80 l D cI cO tF ad M x1 ((4 : Int32) * (M_readPeople M)) ha he hrp B (by first | exact h20 | exact rp_20 hrp) 1 (M_read' M (upd (M_read M) ((4 : Int32) * (M_readPeople M)).toNatClampNeg (-9 : Int32))) (by first | exact at_s ha he c_5 | exact absurd pk_us c_75) (Nat.one_pos) _ _ hP hD hS ls (lv_sub hl [2, 3, 0] rfl)
          · refine lv_iconst (v := (0 : Int32)) hx hb dX4_readPerson_78 (by decide) ?_
            have hF : f_X4_readPerson M x1 = ((0 : Int32), (M_read' M (upd (M_read M) ((4 : Int32) * (M_readPeople M)).toNatClampNeg (-9 : Int32)))) := by rw [f_X4_readPerson, if_neg c_5, if_neg c_37, if_neg c_47, if_neg c_57, if_pos c_75]
            rw [hF]
            exact kr_z B hP hS rfl rfl (Or.inl rfl) dX4_readPerson_79
        · refine lv_iconst (v := (2 : Int32)) hx hb dX4_readPerson_60 (by decide) ?_
          refine lv_goto (tgt := 66) hx hb dX4_readPerson_61 (by decide) ?_
          refine va_iast hx hb hK hP hD hS 7 0 rfl rfl (rp_in hrp) dX4_readPerson_66 (fun H locs hP hD hS => ?_)
          have hP : va_P D vwCl (wM ad cI (M_read' M (upd (M_read M) ((4 : Int32) * (M_readPeople M)).toNatClampNeg (2 : Int32)))) H := hP
          have hD : va_D A (wM ad cI (M_read' M (upd (M_read M) ((4 : Int32) * (M_readPeople M)).toNatClampNeg (2 : Int32)))) := hD
          refine lv_aload_n hx hb dX4_readPerson_67 rfl (lv_at hl 2 rfl) ?_
          refine va_get (D := D) (ci := 4) (v := .ref (ad 7)) (C := RX4) (T := TX4) (N := 24) hx hb hts iw_X4_readPerson_4 hown hK hP 0 rfl rfl 15 (by decide) (hts (.fieldLink RX4 28 "TownLispModel" "read" "[I") (by decide +kernel)) (fun _ h9 => h9) rfl dX4_readPerson_68 ?_
          refine lv_iload_n hx hb dX4_readPerson_71 rfl (lv_at hl 0 rfl) ?_
          refine va_iald hx hb hK hP 7 0 rfl rfl (rp_in hrp) dX4_readPerson_72 ?_
          refine lv_bipush (v := (-9 : Int32)) hx hb dX4_readPerson_73 (by decide) ?_
          refine lv_icmp_ne (tgt := 80) hx hb dX4_readPerson_75 (by decide) (fun c_75 => ?_) (fun c_75 => ?_)
          · have hF : f_X4_readPerson M x1 = fL_X4_readPerson_80 M x1 ((4 : Int32) * (M_readPeople M)) 1 (M_read' M (upd (M_read M) ((4 : Int32) * (M_readPeople M)).toNatClampNeg (2 : Int32))) := by rw [f_X4_readPerson, if_neg c_5, if_neg c_37, if_neg c_47, if_pos c_57, if_neg c_75]
            rw [hF]
            exact L_X4_readPerson_80 l D cI cO tF ad M x1 ((4 : Int32) * (M_readPeople M)) ha he hrp B (by first | exact h20 | exact rp_20 hrp) 1 (M_read' M (upd (M_read M) ((4 : Int32) * (M_readPeople M)).toNatClampNeg (2 : Int32))) (by first | exact at_s ha he c_5 | exact absurd pk_us c_75) (Nat.one_pos) _ _ hP hD hS ls (lv_sub hl [2, 3, 0] rfl)
          · refine lv_iconst (v := (0 : Int32)) hx hb dX4_readPerson_78 (by decide) ?_
            have hF : f_X4_readPerson M x1 = ((0 : Int32), (M_read' M (upd (M_read M) ((4 : Int32) * (M_readPeople M)).toNatClampNeg (2 : Int32)))) := by rw [f_X4_readPerson, if_neg c_5, if_neg c_37, if_neg c_47, if_pos c_57, if_pos c_75]
            rw [hF]
            exact kr_z B hP hS rfl rfl (Or.inl rfl) dX4_readPerson_79
      · refine lv_iconst (v := (1 : Int32)) hx hb dX4_readPerson_50 (by decide) ?_
        refine lv_goto (tgt := 66) hx hb dX4_readPerson_51 (by decide) ?_
        refine va_iast hx hb hK hP hD hS 7 0 rfl rfl (rp_in hrp) dX4_readPerson_66 (fun H locs hP hD hS => ?_)
        have hP : va_P D vwCl (wM ad cI (M_read' M (upd (M_read M) ((4 : Int32) * (M_readPeople M)).toNatClampNeg (1 : Int32)))) H := hP
        have hD : va_D A (wM ad cI (M_read' M (upd (M_read M) ((4 : Int32) * (M_readPeople M)).toNatClampNeg (1 : Int32)))) := hD
        refine lv_aload_n hx hb dX4_readPerson_67 rfl (lv_at hl 2 rfl) ?_
        refine va_get (D := D) (ci := 4) (v := .ref (ad 7)) (C := RX4) (T := TX4) (N := 24) hx hb hts iw_X4_readPerson_4 hown hK hP 0 rfl rfl 15 (by decide) (hts (.fieldLink RX4 28 "TownLispModel" "read" "[I") (by decide +kernel)) (fun _ h9 => h9) rfl dX4_readPerson_68 ?_
        refine lv_iload_n hx hb dX4_readPerson_71 rfl (lv_at hl 0 rfl) ?_
        refine va_iald hx hb hK hP 7 0 rfl rfl (rp_in hrp) dX4_readPerson_72 ?_
        refine lv_bipush (v := (-9 : Int32)) hx hb dX4_readPerson_73 (by decide) ?_
        refine lv_icmp_ne (tgt := 80) hx hb dX4_readPerson_75 (by decide) (fun c_75 => ?_) (fun c_75 => ?_)
        · have hF : f_X4_readPerson M x1 = fL_X4_readPerson_80 M x1 ((4 : Int32) * (M_readPeople M)) 1 (M_read' M (upd (M_read M) ((4 : Int32) * (M_readPeople M)).toNatClampNeg (1 : Int32))) := by rw [f_X4_readPerson, if_neg c_5, if_neg c_37, if_pos c_47, if_neg c_75]
          rw [hF]
          exact L_X4_readPerson_80 l D cI cO tF ad M x1 ((4 : Int32) * (M_readPeople M)) ha he hrp B (by first | exact h20 | exact rp_20 hrp) 1 (M_read' M (upd (M_read M) ((4 : Int32) * (M_readPeople M)).toNatClampNeg (1 : Int32))) (by first | exact at_s ha he c_5 | exact absurd pk_us c_75) (Nat.one_pos) _ _ hP hD hS ls (lv_sub hl [2, 3, 0] rfl)
        · refine lv_iconst (v := (0 : Int32)) hx hb dX4_readPerson_78 (by decide) ?_
          have hF : f_X4_readPerson M x1 = ((0 : Int32), (M_read' M (upd (M_read M) ((4 : Int32) * (M_readPeople M)).toNatClampNeg (1 : Int32)))) := by rw [f_X4_readPerson, if_neg c_5, if_neg c_37, if_pos c_47, if_pos c_75]
          rw [hF]
          exact kr_z B hP hS rfl rfl (Or.inl rfl) dX4_readPerson_79
    · refine lv_iconst (v := (0 : Int32)) hx hb dX4_readPerson_40 (by decide) ?_
      refine lv_goto (tgt := 66) hx hb dX4_readPerson_41 (by decide) ?_
      refine va_iast hx hb hK hP hD hS 7 0 rfl rfl (rp_in hrp) dX4_readPerson_66 (fun H locs hP hD hS => ?_)
      have hP : va_P D vwCl (wM ad cI (M_read' M (upd (M_read M) ((4 : Int32) * (M_readPeople M)).toNatClampNeg (0 : Int32)))) H := hP
      have hD : va_D A (wM ad cI (M_read' M (upd (M_read M) ((4 : Int32) * (M_readPeople M)).toNatClampNeg (0 : Int32)))) := hD
      refine lv_aload_n hx hb dX4_readPerson_67 rfl (lv_at hl 2 rfl) ?_
      refine va_get (D := D) (ci := 4) (v := .ref (ad 7)) (C := RX4) (T := TX4) (N := 24) hx hb hts iw_X4_readPerson_4 hown hK hP 0 rfl rfl 15 (by decide) (hts (.fieldLink RX4 28 "TownLispModel" "read" "[I") (by decide +kernel)) (fun _ h9 => h9) rfl dX4_readPerson_68 ?_
      refine lv_iload_n hx hb dX4_readPerson_71 rfl (lv_at hl 0 rfl) ?_
      refine va_iald hx hb hK hP 7 0 rfl rfl (rp_in hrp) dX4_readPerson_72 ?_
      refine lv_bipush (v := (-9 : Int32)) hx hb dX4_readPerson_73 (by decide) ?_
      refine lv_icmp_ne (tgt := 80) hx hb dX4_readPerson_75 (by decide) (fun c_75 => ?_) (fun c_75 => ?_)
      · have hF : f_X4_readPerson M x1 = fL_X4_readPerson_80 M x1 ((4 : Int32) * (M_readPeople M)) 1 (M_read' M (upd (M_read M) ((4 : Int32) * (M_readPeople M)).toNatClampNeg (0 : Int32))) := by rw [f_X4_readPerson, if_neg c_5, if_pos c_37, if_neg c_75]
        rw [hF]
        exact L_X4_readPerson_80 l D cI cO tF ad M x1 ((4 : Int32) * (M_readPeople M)) ha he hrp B (by first | exact h20 | exact rp_20 hrp) 1 (M_read' M (upd (M_read M) ((4 : Int32) * (M_readPeople M)).toNatClampNeg (0 : Int32))) (by first | exact at_s ha he c_5 | exact absurd pk_us c_75) (Nat.one_pos) _ _ hP hD hS ls (lv_sub hl [2, 3, 0] rfl)
      · refine lv_iconst (v := (0 : Int32)) hx hb dX4_readPerson_78 (by decide) ?_
        have hF : f_X4_readPerson M x1 = ((0 : Int32), (M_read' M (upd (M_read M) ((4 : Int32) * (M_readPeople M)).toNatClampNeg (0 : Int32)))) := by rw [f_X4_readPerson, if_neg c_5, if_pos c_37, if_pos c_75]
        rw [hF]
        exact kr_z B hP hS rfl rfl (Or.inl rfl) dX4_readPerson_79
def fL_X4_takeTown_23 (M : MS) : Nat → Int32 → MS → MS
  | 0, _, v_M => v_M
  | k + 1, x1, v_M => (if (M_people v_M) ≤ x1 then (M_readings' (M_days' v_M (0 : Int32)) (0 : Int32)) else fL_X4_takeTown_23 M k (x1 + (1 : Int32)) (M_isIn' (M_thick' (M_parts' (M_kind' v_M (upd (M_kind v_M) x1.toNatClampNeg ((M_read v_M) ((4 : Int32) * x1).toNatClampNeg))) (upd (M_parts v_M) x1.toNatClampNeg ((M_read v_M) (((4 : Int32) * x1) + (1 : Int32)).toNatClampNeg))) (upd (M_thick v_M) x1.toNatClampNeg ((M_read v_M) (((4 : Int32) * x1) + (2 : Int32)).toNatClampNeg))) ((M_isIn v_M) ||| (((M_read v_M) (((4 : Int32) * x1) + (3 : Int32)).toNatClampNeg) <<< (x1 &&& 31)))))
def f_X4_takeTown (M : MS) : MS := fL_X4_takeTown_23 M 7 (0 : Int32) (M_isIn' (M_people' (M_tin' M (M_readTin M)) (M_readPeople M)) (0 : Int32))
theorem iw_X4_takeTown_4 : ∀ w ∈ wsX40, w ∈ wsX4_takeTown := fun _ h => List.mem_cons_of_mem _ (List.mem_append_right _ h)
set_option maxHeartbeats 4000000 in
set_option maxRecDepth 100000 in
theorem L_X4_takeTown_23 {p : Program} (l : Launch) {e : Env} {s : State} {m : MethodId} {args : Array Value} {below : List Frame} {meth : Method} {c : Code} {A : Nat → Prop} (D : va_G) (cI cO : ClassId) (tF : Nat) (ad : Nat → Nat) (M : MS) (hrp : (M_readPeople M).toInt ≤ 6) (B : Bx p s m args meth c cX4_takeTown 2 none wsX4_takeTown RX4 D cI cO tF A) : ∀ (k : Nat) (x1 : Int32) (v_M : MS), ((M_people v_M).toInt ≤ 6) → (0 ≤ x1.toInt) → (((M_people v_M).toInt - x1.toInt).toNat < k) → ∀ (H : Heap) (locs : List Loc), va_P D vwCl (wM ad cI v_M) H → va_D A (wM ad cI v_M) → va_S A s.heap H locs → ∀ ls : Array Slot, lv_has ls 2 [(0, .ref (ad 0)), (1, .int x1)] → W p l e ({ frames := 0, cells := 0, slots := 0, locals := 0 }) s m args below meth c H locs 0 0 (MQ below (Qp D none (wM ad cI (fL_X4_takeTown_23 M k x1 v_M)) A) args s 0 0 A) (F0 m 23 ls []) := by
  obtain ⟨hx, hb, hret, hml, hts, hown, hlocks, hE, hA⟩ := id B
  have hK := hE.1
  intro k
  induction k with
  | zero =>
    intro x1 v_M hc h0 hk
    exact absurd hk (Nat.not_lt_zero _)
  | succ k ih =>
    intro x1 v_M hc h0 hk H locs hP hD hS ls hl
    refine lv_iload_n hx hb dX4_takeTown_23 rfl (lv_at hl 1 rfl) ?_
    refine lv_aload_n hx hb dX4_takeTown_24 rfl (lv_at hl 0 rfl) ?_
    refine va_get (D := D) (ci := 4) (v := .int (M_people v_M)) (C := RX4) (T := TX4) (N := 24) hx hb hts iw_X4_takeTown_4 hown hK hP 0 rfl rfl 5 (by decide) (hts (.fieldLink RX4 56 "TownLispModel" "people" "I") (by decide +kernel)) (fun _ h9 => h9) rfl dX4_takeTown_25 ?_
    refine lv_icmp_ge (tgt := 104) hx hb dX4_takeTown_28 (by decide) (fun c_28 => ?_) (fun c_28 => ?_)
    · refine lv_aload_n hx hb dX4_takeTown_104 rfl (lv_at hl 0 rfl) ?_
      refine lv_iconst (v := (0 : Int32)) hx hb dX4_takeTown_105 (by decide) ?_
      refine va_put (D := D) (ci := 4) (v := .int (0 : Int32)) (ty := .int) (C := RX4) (T := TX4) (N := 24) hx hb hts iw_X4_takeTown_4 tyX4 tyX4_ok nmX4 hown hK hP hD hS 0 rfl rfl 8 (by decide) (hts (.fieldLink RX4 99 "TownLispModel" "days" "I") (by decide +kernel)) (fun _ h9 => h9) rfl (by decide +kernel) rfl rfl (Nat.le_of_ble_eq_true rfl) dX4_takeTown_106 (fun H locs hP hD hS => ?_)
      have hP : va_P D vwCl (wM ad cI (M_days' v_M (0 : Int32))) H := hP
      have hD : va_D A (wM ad cI (M_days' v_M (0 : Int32))) := hD
      refine lv_aload_n hx hb dX4_takeTown_109 rfl (lv_at hl 0 rfl) ?_
      refine lv_iconst (v := (0 : Int32)) hx hb dX4_takeTown_110 (by decide) ?_
      refine va_put (D := D) (ci := 4) (v := .int (0 : Int32)) (ty := .int) (C := RX4) (T := TX4) (N := 24) hx hb hts iw_X4_takeTown_4 tyX4 tyX4_ok nmX4 hown hK hP hD hS 0 rfl rfl 20 (by decide) (hts (.fieldLink RX4 102 "TownLispModel" "readings" "I") (by decide +kernel)) (fun _ h9 => h9) rfl (by decide +kernel) rfl rfl (Nat.le_of_ble_eq_true rfl) dX4_takeTown_111 (fun H locs hP hD hS => ?_)
      have hP : va_P D vwCl (wM ad cI (M_readings' (M_days' v_M (0 : Int32)) (0 : Int32))) H := hP
      have hD : va_D A (wM ad cI (M_readings' (M_days' v_M (0 : Int32)) (0 : Int32))) := hD
      have hF : fL_X4_takeTown_23 M (k + 1) x1 v_M = (M_readings' (M_days' v_M (0 : Int32)) (0 : Int32)) := by rw [fL_X4_takeTown_23, if_pos c_28]
      rw [hF]
      exact kr_v B hP hS rfl dX4_takeTown_114
    · refine lv_aload_n hx hb dX4_takeTown_31 rfl (lv_at hl 0 rfl) ?_
      refine va_get (D := D) (ci := 4) (v := .ref (ad 4)) (C := RX4) (T := TX4) (N := 24) hx hb hts iw_X4_takeTown_4 hown hK hP 0 rfl rfl 9 (by decide) (hts (.fieldLink RX4 19 "TownLispModel" "kind" "[I") (by decide +kernel)) (fun _ h9 => h9) rfl dX4_takeTown_32 ?_
      refine lv_iload_n hx hb dX4_takeTown_35 rfl (lv_at hl 1 rfl) ?_
      refine lv_aload_n hx hb dX4_takeTown_36 rfl (lv_at hl 0 rfl) ?_
      refine va_get (D := D) (ci := 4) (v := .ref (ad 7)) (C := RX4) (T := TX4) (N := 24) hx hb hts iw_X4_takeTown_4 hown hK hP 0 rfl rfl 15 (by decide) (hts (.fieldLink RX4 28 "TownLispModel" "read" "[I") (by decide +kernel)) (fun _ h9 => h9) rfl dX4_takeTown_37 ?_
      refine lv_iconst (v := (4 : Int32)) hx hb dX4_takeTown_40 (by decide) ?_
      refine lv_iload_n hx hb dX4_takeTown_41 rfl (lv_at hl 1 rfl) ?_
      refine lv_imul hx hb dX4_takeTown_42 ?_
      refine va_iald hx hb hK hP 7 0 rfl rfl (rp_in (k5 h0 hc c_28)) dX4_takeTown_43 ?_
      refine va_iast hx hb hK hP hD hS 4 0 rfl rfl (lp_in h0 hc c_28) dX4_takeTown_44 (fun H locs hP hD hS => ?_)
      have hP : va_P D vwCl (wM ad cI (M_kind' v_M (upd (M_kind v_M) x1.toNatClampNeg ((M_read v_M) ((4 : Int32) * x1).toNatClampNeg)))) H := hP
      have hD : va_D A (wM ad cI (M_kind' v_M (upd (M_kind v_M) x1.toNatClampNeg ((M_read v_M) ((4 : Int32) * x1).toNatClampNeg)))) := hD
      refine lv_aload_n hx hb dX4_takeTown_45 rfl (lv_at hl 0 rfl) ?_
      refine va_get (D := D) (ci := 4) (v := .ref (ad 5)) (C := RX4) (T := TX4) (N := 24) hx hb hts iw_X4_takeTown_4 hown hK hP 0 rfl rfl 10 (by decide) (hts (.fieldLink RX4 22 "TownLispModel" "parts" "[I") (by decide +kernel)) (fun _ h9 => h9) rfl dX4_takeTown_46 ?_
      refine lv_iload_n hx hb dX4_takeTown_49 rfl (lv_at hl 1 rfl) ?_
      refine lv_aload_n hx hb dX4_takeTown_50 rfl (lv_at hl 0 rfl) ?_
      refine va_get (D := D) (ci := 4) (v := .ref (ad 7)) (C := RX4) (T := TX4) (N := 24) hx hb hts iw_X4_takeTown_4 hown hK hP 0 rfl rfl 15 (by decide) (hts (.fieldLink RX4 28 "TownLispModel" "read" "[I") (by decide +kernel)) (fun _ h9 => h9) rfl dX4_takeTown_51 ?_
      refine lv_iconst (v := (4 : Int32)) hx hb dX4_takeTown_54 (by decide) ?_
      refine lv_iload_n hx hb dX4_takeTown_55 rfl (lv_at hl 1 rfl) ?_
      refine lv_imul hx hb dX4_takeTown_56 ?_
      refine lv_iconst (v := (1 : Int32)) hx hb dX4_takeTown_57 (by decide) ?_
      refine lv_iadd hx hb dX4_takeTown_58 ?_
      refine va_iald hx hb hK hP 7 0 rfl rfl (rp_inc (1 : Int32) (k5 h0 hc c_28) (by decide)) dX4_takeTown_59 ?_
      refine va_iast hx hb hK hP hD hS 5 0 rfl rfl (lp_in h0 hc c_28) dX4_takeTown_60 (fun H locs hP hD hS => ?_)
      have hP : va_P D vwCl (wM ad cI (M_parts' (M_kind' v_M (upd (M_kind v_M) x1.toNatClampNeg ((M_read v_M) ((4 : Int32) * x1).toNatClampNeg))) (upd (M_parts v_M) x1.toNatClampNeg ((M_read v_M) (((4 : Int32) * x1) + (1 : Int32)).toNatClampNeg)))) H := hP
      have hD : va_D A (wM ad cI (M_parts' (M_kind' v_M (upd (M_kind v_M) x1.toNatClampNeg ((M_read v_M) ((4 : Int32) * x1).toNatClampNeg))) (upd (M_parts v_M) x1.toNatClampNeg ((M_read v_M) (((4 : Int32) * x1) + (1 : Int32)).toNatClampNeg)))) := hD
      refine lv_aload_n hx hb dX4_takeTown_61 rfl (lv_at hl 0 rfl) ?_
      refine va_get (D := D) (ci := 4) (v := .ref (ad 6)) (C := RX4) (T := TX4) (N := 24) hx hb hts iw_X4_takeTown_4 hown hK hP 0 rfl rfl 11 (by decide) (hts (.fieldLink RX4 25 "TownLispModel" "thick" "[I") (by decide +kernel)) (fun _ h9 => h9) rfl dX4_takeTown_62 ?_
      refine lv_iload_n hx hb dX4_takeTown_65 rfl (lv_at hl 1 rfl) ?_
      refine lv_aload_n hx hb dX4_takeTown_66 rfl (lv_at hl 0 rfl) ?_
      refine va_get (D := D) (ci := 4) (v := .ref (ad 7)) (C := RX4) (T := TX4) (N := 24) hx hb hts iw_X4_takeTown_4 hown hK hP 0 rfl rfl 15 (by decide) (hts (.fieldLink RX4 28 "TownLispModel" "read" "[I") (by decide +kernel)) (fun _ h9 => h9) rfl dX4_takeTown_67 ?_
      refine lv_iconst (v := (4 : Int32)) hx hb dX4_takeTown_70 (by decide) ?_
      refine lv_iload_n hx hb dX4_takeTown_71 rfl (lv_at hl 1 rfl) ?_
      refine lv_imul hx hb dX4_takeTown_72 ?_
      refine lv_iconst (v := (2 : Int32)) hx hb dX4_takeTown_73 (by decide) ?_
      refine lv_iadd hx hb dX4_takeTown_74 ?_
      refine va_iald hx hb hK hP 7 0 rfl rfl (rp_inc (2 : Int32) (k5 h0 hc c_28) (by decide)) dX4_takeTown_75 ?_
      refine va_iast hx hb hK hP hD hS 6 0 rfl rfl (lp_in h0 hc c_28) dX4_takeTown_76 (fun H locs hP hD hS => ?_)
      have hP : va_P D vwCl (wM ad cI (M_thick' (M_parts' (M_kind' v_M (upd (M_kind v_M) x1.toNatClampNeg ((M_read v_M) ((4 : Int32) * x1).toNatClampNeg))) (upd (M_parts v_M) x1.toNatClampNeg ((M_read v_M) (((4 : Int32) * x1) + (1 : Int32)).toNatClampNeg))) (upd (M_thick v_M) x1.toNatClampNeg ((M_read v_M) (((4 : Int32) * x1) + (2 : Int32)).toNatClampNeg)))) H := hP
      have hD : va_D A (wM ad cI (M_thick' (M_parts' (M_kind' v_M (upd (M_kind v_M) x1.toNatClampNeg ((M_read v_M) ((4 : Int32) * x1).toNatClampNeg))) (upd (M_parts v_M) x1.toNatClampNeg ((M_read v_M) (((4 : Int32) * x1) + (1 : Int32)).toNatClampNeg))) (upd (M_thick v_M) x1.toNatClampNeg ((M_read v_M) (((4 : Int32) * x1) + (2 : Int32)).toNatClampNeg)))) := hD
      refine lv_aload_n hx hb dX4_takeTown_77 rfl (lv_at hl 0 rfl) ?_
      refine lv_dup hx hb dX4_takeTown_78 rfl ?_
      refine va_get (D := D) (ci := 4) (v := .int (M_isIn v_M)) (C := RX4) (T := TX4) (N := 24) hx hb hts iw_X4_takeTown_4 hown hK hP 0 rfl rfl 7 (by decide) (hts (.fieldLink RX4 96 "TownLispModel" "isIn" "I") (by decide +kernel)) (fun _ h9 => h9) rfl dX4_takeTown_79 ?_
      refine lv_aload_n hx hb dX4_takeTown_82 rfl (lv_at hl 0 rfl) ?_
      refine va_get (D := D) (ci := 4) (v := .ref (ad 7)) (C := RX4) (T := TX4) (N := 24) hx hb hts iw_X4_takeTown_4 hown hK hP 0 rfl rfl 15 (by decide) (hts (.fieldLink RX4 28 "TownLispModel" "read" "[I") (by decide +kernel)) (fun _ h9 => h9) rfl dX4_takeTown_83 ?_
      refine lv_iconst (v := (4 : Int32)) hx hb dX4_takeTown_86 (by decide) ?_
      refine lv_iload_n hx hb dX4_takeTown_87 rfl (lv_at hl 1 rfl) ?_
      refine lv_imul hx hb dX4_takeTown_88 ?_
      refine lv_iconst (v := (3 : Int32)) hx hb dX4_takeTown_89 (by decide) ?_
      refine lv_iadd hx hb dX4_takeTown_90 ?_
      refine va_iald hx hb hK hP 7 0 rfl rfl (rp_inc (3 : Int32) (k5 h0 hc c_28) (by decide)) dX4_takeTown_91 ?_
      refine lv_iload_n hx hb dX4_takeTown_92 rfl (lv_at hl 1 rfl) ?_
      refine lv_ishl hx hb dX4_takeTown_93 ?_
      refine lv_ior hx hb dX4_takeTown_94 ?_
      refine va_put (D := D) (ci := 4) (v := .int ((M_isIn v_M) ||| (((M_read v_M) (((4 : Int32) * x1) + (3 : Int32)).toNatClampNeg) <<< (x1 &&& 31)))) (ty := .int) (C := RX4) (T := TX4) (N := 24) hx hb hts iw_X4_takeTown_4 tyX4 tyX4_ok nmX4 hown hK hP hD hS 0 rfl rfl 7 (by decide) (hts (.fieldLink RX4 96 "TownLispModel" "isIn" "I") (by decide +kernel)) (fun _ h9 => h9) rfl (by decide +kernel) rfl rfl (Nat.le_of_ble_eq_true rfl) dX4_takeTown_95 (fun H locs hP hD hS => ?_)
      have hP : va_P D vwCl (wM ad cI (M_isIn' (M_thick' (M_parts' (M_kind' v_M (upd (M_kind v_M) x1.toNatClampNeg ((M_read v_M) ((4 : Int32) * x1).toNatClampNeg))) (upd (M_parts v_M) x1.toNatClampNeg ((M_read v_M) (((4 : Int32) * x1) + (1 : Int32)).toNatClampNeg))) (upd (M_thick v_M) x1.toNatClampNeg ((M_read v_M) (((4 : Int32) * x1) + (2 : Int32)).toNatClampNeg))) ((M_isIn v_M) ||| (((M_read v_M) (((4 : Int32) * x1) + (3 : Int32)).toNatClampNeg) <<< (x1 &&& 31))))) H := hP
      have hD : va_D A (wM ad cI (M_isIn' (M_thick' (M_parts' (M_kind' v_M (upd (M_kind v_M) x1.toNatClampNeg ((M_read v_M) ((4 : Int32) * x1).toNatClampNeg))) (upd (M_parts v_M) x1.toNatClampNeg ((M_read v_M) (((4 : Int32) * x1) + (1 : Int32)).toNatClampNeg))) (upd (M_thick v_M) x1.toNatClampNeg ((M_read v_M) (((4 : Int32) * x1) + (2 : Int32)).toNatClampNeg))) ((M_isIn v_M) ||| (((M_read v_M) (((4 : Int32) * x1) + (3 : Int32)).toNatClampNeg) <<< (x1 &&& 31))))) := hD
      refine lv_iinc (v := (x1 + (1 : Int32))) (lv' := [(1, .int (x1 + (1 : Int32))), (0, .ref (ad 0))]) hx hb dX4_takeTown_98 hl (k := 1) rfl rfl (by decide) rfl (fun ls hl => ?_)
      refine lv_goto (tgt := 23) hx hb dX4_takeTown_101 (by decide) ?_
      have hF : fL_X4_takeTown_23 M (k + 1) x1 v_M = fL_X4_takeTown_23 M k (x1 + (1 : Int32)) (M_isIn' (M_thick' (M_parts' (M_kind' v_M (upd (M_kind v_M) x1.toNatClampNeg ((M_read v_M) ((4 : Int32) * x1).toNatClampNeg))) (upd (M_parts v_M) x1.toNatClampNeg ((M_read v_M) (((4 : Int32) * x1) + (1 : Int32)).toNatClampNeg))) (upd (M_thick v_M) x1.toNatClampNeg ((M_read v_M) (((4 : Int32) * x1) + (2 : Int32)).toNatClampNeg))) ((M_isIn v_M) ||| (((M_read v_M) (((4 : Int32) * x1) + (3 : Int32)).toNatClampNeg) <<< (x1 &&& 31)))) := by rw [fL_X4_takeTown_23, if_neg c_28]
      rw [hF]
      exact ih (x1 + (1 : Int32)) (M_isIn' (M_thick' (M_parts' (M_kind' v_M (upd (M_kind v_M) x1.toNatClampNeg ((M_read v_M) ((4 : Int32) * x1).toNatClampNeg))) (upd (M_parts v_M) x1.toNatClampNeg ((M_read v_M) (((4 : Int32) * x1) + (1 : Int32)).toNatClampNeg))) (upd (M_thick v_M) x1.toNatClampNeg ((M_read v_M) (((4 : Int32) * x1) + (2 : Int32)).toNatClampNeg))) ((M_isIn v_M) ||| (((M_read v_M) (((4 : Int32) * x1) + (3 : Int32)).toNatClampNeg) <<< (x1 &&& 31)))) (hc) (lp_pre h0 c_28) (lp_mu h0 c_28 hk) _ _ hP hD hS ls (lv_sub hl [1, 0] rfl)
set_option maxHeartbeats 4000000 in
set_option maxRecDepth 100000 in
theorem c_X4_takeTown (l : Launch) (D : va_G) (cI cO : ClassId) (tF : Nat) (ad : Nat → Nat) (M : MS) (hrp : (M_readPeople M).toInt ≤ 6) : Ct l yX4_takeTown wsX4_takeTown ({ frames := 0, cells := 0, slots := 0, locals := 0 }) D cI cO tF [.ref (ad 0)] (wM ad cI M) none (wM ad cI (f_X4_takeTown M)) := by
  refine Ct.of (cc := cX4_takeTown) (maxL := 2) (ret := none) (own := RX4) (by decide) rfl rfl (Nat.le_of_ble_eq_true rfl) ?_
  intro p e s m args below meth c A ls B hP hD hS hl
  obtain ⟨hx, hb, hret, hml, hts, hown, hlocks, hE, hA⟩ := id B
  have hK := hE.1
  have hl : lv_has ls 2 [(0, .ref (ad 0))] := hl
  refine lv_aload_n hx hb dX4_takeTown_0 rfl (lv_at hl 0 rfl) ?_
  refine lv_aload_n hx hb dX4_takeTown_1 rfl (lv_at hl 0 rfl) ?_
  refine va_get (D := D) (ci := 4) (v := .int (M_readTin M)) (C := RX4) (T := TX4) (N := 24) hx hb hts iw_X4_takeTown_4 hown hK hP 0 rfl rfl 13 (by decide) (hts (.fieldLink RX4 87 "TownLispModel" "readTin" "I") (by decide +kernel)) (fun _ h9 => h9) rfl dX4_takeTown_2 ?_
  refine va_put (D := D) (ci := 4) (v := .int (M_readTin M)) (ty := .int) (C := RX4) (T := TX4) (N := 24) hx hb hts iw_X4_takeTown_4 tyX4 tyX4_ok nmX4 hown hK hP hD hS 0 rfl rfl 6 (by decide) (hts (.fieldLink RX4 90 "TownLispModel" "tin" "I") (by decide +kernel)) (fun _ h9 => h9) rfl (by decide +kernel) rfl rfl (Nat.le_of_ble_eq_true rfl) dX4_takeTown_5 (fun H locs hP hD hS => ?_)
  have hP : va_P D vwCl (wM ad cI (M_tin' M (M_readTin M))) H := hP
  have hD : va_D A (wM ad cI (M_tin' M (M_readTin M))) := hD
  refine lv_aload_n hx hb dX4_takeTown_8 rfl (lv_at hl 0 rfl) ?_
  refine lv_aload_n hx hb dX4_takeTown_9 rfl (lv_at hl 0 rfl) ?_
  refine va_get (D := D) (ci := 4) (v := .int (M_readPeople M)) (C := RX4) (T := TX4) (N := 24) hx hb hts iw_X4_takeTown_4 hown hK hP 0 rfl rfl 14 (by decide) (hts (.fieldLink RX4 93 "TownLispModel" "readPeople" "I") (by decide +kernel)) (fun _ h9 => h9) rfl dX4_takeTown_10 ?_
  refine va_put (D := D) (ci := 4) (v := .int (M_readPeople M)) (ty := .int) (C := RX4) (T := TX4) (N := 24) hx hb hts iw_X4_takeTown_4 tyX4 tyX4_ok nmX4 hown hK hP hD hS 0 rfl rfl 5 (by decide) (hts (.fieldLink RX4 56 "TownLispModel" "people" "I") (by decide +kernel)) (fun _ h9 => h9) rfl (by decide +kernel) rfl rfl (Nat.le_of_ble_eq_true rfl) dX4_takeTown_13 (fun H locs hP hD hS => ?_)
  have hP : va_P D vwCl (wM ad cI (M_people' (M_tin' M (M_readTin M)) (M_readPeople M))) H := hP
  have hD : va_D A (wM ad cI (M_people' (M_tin' M (M_readTin M)) (M_readPeople M))) := hD
  refine lv_aload_n hx hb dX4_takeTown_16 rfl (lv_at hl 0 rfl) ?_
  refine lv_iconst (v := (0 : Int32)) hx hb dX4_takeTown_17 (by decide) ?_
  refine va_put (D := D) (ci := 4) (v := .int (0 : Int32)) (ty := .int) (C := RX4) (T := TX4) (N := 24) hx hb hts iw_X4_takeTown_4 tyX4 tyX4_ok nmX4 hown hK hP hD hS 0 rfl rfl 7 (by decide) (hts (.fieldLink RX4 96 "TownLispModel" "isIn" "I") (by decide +kernel)) (fun _ h9 => h9) rfl (by decide +kernel) rfl rfl (Nat.le_of_ble_eq_true rfl) dX4_takeTown_18 (fun H locs hP hD hS => ?_)
  have hP : va_P D vwCl (wM ad cI (M_isIn' (M_people' (M_tin' M (M_readTin M)) (M_readPeople M)) (0 : Int32))) H := hP
  have hD : va_D A (wM ad cI (M_isIn' (M_people' (M_tin' M (M_readTin M)) (M_readPeople M)) (0 : Int32))) := hD
  refine lv_iconst (v := (0 : Int32)) hx hb dX4_takeTown_21 (by decide) ?_
  refine lv_istore_n (lv' := [(1, .int (0 : Int32)), (0, .ref (ad 0))]) hx hb dX4_takeTown_22 rfl hl (by decide) rfl (fun ls hl => ?_)
  have hF : f_X4_takeTown M = fL_X4_takeTown_23 M 7 (0 : Int32) (M_isIn' (M_people' (M_tin' M (M_readTin M)) (M_readPeople M)) (0 : Int32)) := by rw [f_X4_takeTown]
  rw [hF]
  exact L_X4_takeTown_23 l D cI cO tF ad M  hrp B  7 (0 : Int32) (M_isIn' (M_people' (M_tin' M (M_readTin M)) (M_readPeople M)) (0 : Int32)) (hrp) (Int.le_refl _) (le6_mu hrp) _ _ hP hD hS ls (lv_sub hl [1, 0] rfl)
def fL_X4_goYear_2 (M : MS) (x1 : Int32) (x2 : Int32) : Nat → Int32 → MS → Int32 × MS
  | 0, _, v_M => (0, v_M)
  | k + 1, x3, v_M => (if x2 ≤ x3 then ((-9 : Int32), v_M) else (if (f_X4_canBe v_M ((M_cells v_M) (x1 + ((2 : Int32) * x3)).toNatClampNeg) ((M_cells v_M) ((x1 + ((2 : Int32) * x3)) + (1 : Int32)).toNatClampNeg)) = 0 then (x3, v_M) else fL_X4_goYear_2 M x1 x2 k (x3 + (1 : Int32)) (f_X4_does v_M ((M_cells v_M) (x1 + ((2 : Int32) * x3)).toNatClampNeg) ((M_cells v_M) ((x1 + ((2 : Int32) * x3)) + (1 : Int32)).toNatClampNeg))))
def f_X4_goYear (M : MS) (x1 : Int32) (x2 : Int32) : Int32 × MS := fL_X4_goYear_2 M x1 x2 (x2.toInt.toNat + 1) (0 : Int32) M
theorem iw_X4_goYear_4 : ∀ w ∈ wsX40, w ∈ wsX4_goYear := fun _ h => List.mem_cons_of_mem _ (List.mem_append_right _ h)
set_option maxHeartbeats 4000000 in
set_option maxRecDepth 100000 in
theorem L_X4_goYear_2 {p : Program} (l : Launch) {e : Env} {s : State} {m : MethodId} {args : Array Value} {below : List Frame} {meth : Method} {c : Code} {A : Nat → Prop} (D : va_G) (cI cO : ClassId) (tF : Nat) (ad : Nat → Nat) (M : MS) (x1 : Int32) (x2 : Int32) (hn : (M_people M).toInt ≤ 6) (hso : so (M_isIn M) (M_people M)) (hix : ∀ r : Int32, 0 ≤ r.toInt → ¬ x2 ≤ r → vp_in (x1 + ((2 : Int32) * r)) 240 ∧ vp_in ((x1 + ((2 : Int32) * r)) + (1 : Int32)) 240) (hpa : ∀ r : Int32, 0 ≤ r.toInt → ¬ x2 ≤ r → 0 ≤ ((M_cells M) (x1 + ((2 : Int32) * r)).toNatClampNeg).toInt ∧ ((M_cells M) (x1 + ((2 : Int32) * r)).toNatClampNeg).toInt < (M_people M).toInt) (B : Bx p s m args meth c cX4_goYear 6 (some .int) wsX4_goYear RX4 D cI cO tF A) : ∀ (k : Nat) (x3 : Int32) (v_M : MS), (fr M v_M) → (so (M_isIn v_M) (M_people v_M)) → (0 ≤ x3.toInt) → ((x2.toInt - x3.toInt).toNat < k) → ∀ (H : Heap) (locs : List Loc), va_P D vwCl (wM ad cI v_M) H → va_D A (wM ad cI v_M) → va_S A s.heap H locs → ∀ ls : Array Slot, lv_has ls 6 [(0, .ref (ad 0)), (1, .int x1), (2, .int x2), (3, .int x3)] → W p l e ({ frames := 5, cells := 0, slots := 0, locals := 115 }) s m args below meth c H locs 0 0 (MQ below (Qp D (some (.int ((fL_X4_goYear_2 M x1 x2 k x3 v_M).1))) (wM ad cI ((fL_X4_goYear_2 M x1 x2 k x3 v_M).2)) A) args s 0 0 A) (F0 m 2 ls []) := by
  obtain ⟨hx, hb, hret, hml, hts, hown, hlocks, hE, hA⟩ := id B
  have hK := hE.1
  intro k
  induction k with
  | zero =>
    intro x3 v_M hfr hvs h0 hk
    exact absurd hk (Nat.not_lt_zero _)
  | succ k ih =>
    intro x3 v_M hfr hvs h0 hk H locs hP hD hS ls hl
    refine lv_iload_n hx hb dX4_goYear_2 rfl (lv_at hl 3 rfl) ?_
    refine lv_iload_n hx hb dX4_goYear_3 rfl (lv_at hl 2 rfl) ?_
    refine lv_icmp_ge (tgt := 60) hx hb dX4_goYear_4 (by decide) (fun c_4 => ?_) (fun c_4 => ?_)
    · refine lv_bipush (v := (-9 : Int32)) hx hb dX4_goYear_60 (by decide) ?_
      have hF : fL_X4_goYear_2 M x1 x2 (k + 1) x3 v_M = ((-9 : Int32), v_M) := by rw [fL_X4_goYear_2, if_pos c_4]
      rw [hF]
      exact kr_i B hP hS rfl rfl dX4_goYear_62
    · refine lv_aload_n hx hb dX4_goYear_7 rfl (lv_at hl 0 rfl) ?_
      refine va_get (D := D) (ci := 4) (v := .ref (ad 3)) (C := RX4) (T := TX4) (N := 24) hx hb hts iw_X4_goYear_4 hown hK hP 0 rfl rfl 4 (by decide) (hts (.fieldLink RX4 16 "TownLispModel" "cells" "[I") (by decide +kernel)) (fun _ h9 => h9) rfl dX4_goYear_8 ?_
      refine lv_iload_n hx hb dX4_goYear_11 rfl (lv_at hl 1 rfl) ?_
      refine lv_iconst (v := (2 : Int32)) hx hb dX4_goYear_12 (by decide) ?_
      refine lv_iload_n hx hb dX4_goYear_13 rfl (lv_at hl 3 rfl) ?_
      refine lv_imul hx hb dX4_goYear_14 ?_
      refine lv_iadd hx hb dX4_goYear_15 ?_
      refine va_iald hx hb hK hP 3 0 rfl rfl ((hix _ h0 c_4).1) dX4_goYear_16 ?_
      refine lv_istore (lv' := [(4, .int ((M_cells v_M) (x1 + ((2 : Int32) * x3)).toNatClampNeg)), (0, .ref (ad 0)), (1, .int x1), (2, .int x2), (3, .int x3)]) hx hb dX4_goYear_17 hl (by decide) rfl (fun ls hl => ?_)
      refine lv_aload_n hx hb dX4_goYear_19 rfl (lv_at hl 1 rfl) ?_
      refine va_get (D := D) (ci := 4) (v := .ref (ad 3)) (C := RX4) (T := TX4) (N := 24) hx hb hts iw_X4_goYear_4 hown hK hP 0 rfl rfl 4 (by decide) (hts (.fieldLink RX4 16 "TownLispModel" "cells" "[I") (by decide +kernel)) (fun _ h9 => h9) rfl dX4_goYear_20 ?_
      refine lv_iload_n hx hb dX4_goYear_23 rfl (lv_at hl 2 rfl) ?_
      refine lv_iconst (v := (2 : Int32)) hx hb dX4_goYear_24 (by decide) ?_
      refine lv_iload_n hx hb dX4_goYear_25 rfl (lv_at hl 4 rfl) ?_
      refine lv_imul hx hb dX4_goYear_26 ?_
      refine lv_iadd hx hb dX4_goYear_27 ?_
      refine lv_iconst (v := (1 : Int32)) hx hb dX4_goYear_28 (by decide) ?_
      refine lv_iadd hx hb dX4_goYear_29 ?_
      refine va_iald hx hb hK hP 3 0 rfl rfl ((hix _ h0 c_4).2) dX4_goYear_30 ?_
      refine lv_istore (lv' := [(5, .int ((M_cells v_M) ((x1 + ((2 : Int32) * x3)) + (1 : Int32)).toNatClampNeg)), (4, .int ((M_cells v_M) (x1 + ((2 : Int32) * x3)).toNatClampNeg)), (0, .ref (ad 0)), (1, .int x1), (2, .int x2), (3, .int x3)]) hx hb dX4_goYear_31 hl (by decide) rfl (fun ls hl => ?_)
      refine lv_aload_n hx hb dX4_goYear_33 rfl (lv_at hl 2 rfl) ?_
      refine lv_iload hx hb dX4_goYear_34 (lv_at hl 1 rfl) ?_
      refine lv_iload hx hb dX4_goYear_36 (lv_at hl 0 rfl) ?_
      refine kc_V (As := [.int ((M_cells v_M) (x1 + ((2 : Int32) * x3)).toNatClampNeg), .int ((M_cells v_M) ((x1 + ((2 : Int32) * x3)) + (1 : Int32)).toNatClampNeg)]) (rest := []) B (c_X4_canBe l D cI cO tF ad v_M ((M_cells v_M) (x1 + ((2 : Int32) * x3)).toNatClampNeg) ((M_cells v_M) ((x1 + ((2 : Int32) * x3)) + (1 : Int32)).toNatClampNeg) ) (cwV 2 hts gX4_goYear_X4_canBe rfl rfl rfl (by decide +kernel) ⟨Nat.le_of_ble_eq_true rfl, Nat.le_of_ble_eq_true rfl⟩) hP hD hS [0, 1, 2, 3, 4, 5, 6, 7, 8, 9, 10, 11, 12] wM_subA (by decide) (w' := wM ad cI v_M) (wM_setA _) (wM_fst _) 0 4 rfl rfl rfl rfl hl.1 rfl (Nat.le_of_ble_eq_true rfl) dX4_goYear_38 ⟨Nat.zero_le _, Nat.zero_le _⟩ (fun H locs hP hD hS => ?_)
      have hD : va_D A (wM ad cI v_M) := hD
      refine lv_if_ne (tgt := 46) hx hb dX4_goYear_41 (by decide) (fun c_41 => ?_) (fun c_41 => ?_)
      · refine lv_aload_n hx hb dX4_goYear_46 rfl (lv_at hl 2 rfl) ?_
        refine lv_iload hx hb dX4_goYear_47 (lv_at hl 1 rfl) ?_
        refine lv_iload hx hb dX4_goYear_49 (lv_at hl 0 rfl) ?_
        refine kc_V (As := [.int ((M_cells v_M) (x1 + ((2 : Int32) * x3)).toNatClampNeg), .int ((M_cells v_M) ((x1 + ((2 : Int32) * x3)) + (1 : Int32)).toNatClampNeg)]) (rest := []) B (c_X4_does l D cI cO tF ad v_M ((M_cells v_M) (x1 + ((2 : Int32) * x3)).toNatClampNeg) ((M_cells v_M) ((x1 + ((2 : Int32) * x3)) + (1 : Int32)).toNatClampNeg) (fr_n hfr hn) (fr_pa hfr (hpa _ h0 c_4)) (hvs) (cb_0 c_41)) (cwV 2 hts gX4_goYear_X4_does rfl rfl rfl (by decide +kernel) ⟨Nat.le_of_ble_eq_true rfl, Nat.le_of_ble_eq_true rfl⟩) hP hD hS [0, 1, 2, 3, 4, 5, 6, 7, 8, 9, 10, 11, 12] wM_subA (by decide) (w' := wM ad cI (f_X4_does v_M ((M_cells v_M) (x1 + ((2 : Int32) * x3)).toNatClampNeg) ((M_cells v_M) ((x1 + ((2 : Int32) * x3)) + (1 : Int32)).toNatClampNeg))) (wM_setA _) (wM_fst _) 0 4 rfl rfl rfl rfl hl.1 rfl (Nat.le_of_ble_eq_true rfl) dX4_goYear_51 ⟨Nat.zero_le _, Nat.zero_le _⟩ (fun H locs hP hD hS => ?_)
        have hD : va_D A (wM ad cI (f_X4_does v_M ((M_cells v_M) (x1 + ((2 : Int32) * x3)).toNatClampNeg) ((M_cells v_M) ((x1 + ((2 : Int32) * x3)) + (1 : Int32)).toNatClampNeg))) := hD
        refine lv_iinc (v := (x3 + (1 : Int32))) (lv' := [(3, .int (x3 + (1 : Int32))), (5, .int ((M_cells v_M) ((x1 + ((2 : Int32) * x3)) + (1 : Int32)).toNatClampNeg)), (4, .int ((M_cells v_M) (x1 + ((2 : Int32) * x3)).toNatClampNeg)), (0, .ref (ad 0)), (1, .int x1), (2, .int x2)]) hx hb dX4_goYear_54 hl (k := 5) rfl rfl (by decide) rfl (fun ls hl => ?_)
        refine lv_goto (tgt := 2) hx hb dX4_goYear_57 (by decide) ?_
        have hF : fL_X4_goYear_2 M x1 x2 (k + 1) x3 v_M = fL_X4_goYear_2 M x1 x2 k (x3 + (1 : Int32)) (f_X4_does v_M ((M_cells v_M) (x1 + ((2 : Int32) * x3)).toNatClampNeg) ((M_cells v_M) ((x1 + ((2 : Int32) * x3)) + (1 : Int32)).toNatClampNeg)) := by rw [fL_X4_goYear_2, if_neg c_4, if_neg c_41]
        rw [hF]
        exact ih (x3 + (1 : Int32)) (f_X4_does v_M ((M_cells v_M) (x1 + ((2 : Int32) * x3)).toNatClampNeg) ((M_cells v_M) ((x1 + ((2 : Int32) * x3)) + (1 : Int32)).toNatClampNeg)) (fr_trans hfr (fr_does _ _ _)) (does_so hvs (fr_pa hfr (hpa _ h0 c_4))) (lp_pre h0 c_4) (lp_mu h0 c_4 hk) _ _ hP hD hS ls (lv_sub hl [3, 4, 5, 0] rfl)
      · refine lv_iload_n hx hb dX4_goYear_44 rfl (lv_at hl 5 rfl) ?_
        have hF : fL_X4_goYear_2 M x1 x2 (k + 1) x3 v_M = (x3, v_M) := by rw [fL_X4_goYear_2, if_neg c_4, if_pos c_41]
        rw [hF]
        exact kr_i B hP hS rfl rfl dX4_goYear_45
set_option maxHeartbeats 4000000 in
set_option maxRecDepth 100000 in
theorem c_X4_goYear (l : Launch) (D : va_G) (cI cO : ClassId) (tF : Nat) (ad : Nat → Nat) (M : MS) (x1 : Int32) (x2 : Int32) (hn : (M_people M).toInt ≤ 6) (hso : so (M_isIn M) (M_people M)) (hix : ∀ r : Int32, 0 ≤ r.toInt → ¬ x2 ≤ r → vp_in (x1 + ((2 : Int32) * r)) 240 ∧ vp_in ((x1 + ((2 : Int32) * r)) + (1 : Int32)) 240) (hpa : ∀ r : Int32, 0 ≤ r.toInt → ¬ x2 ≤ r → 0 ≤ ((M_cells M) (x1 + ((2 : Int32) * r)).toNatClampNeg).toInt ∧ ((M_cells M) (x1 + ((2 : Int32) * r)).toNatClampNeg).toInt < (M_people M).toInt) : Ct l yX4_goYear wsX4_goYear ({ frames := 5, cells := 0, slots := 0, locals := 115 }) D cI cO tF [.ref (ad 0), .int x1, .int x2] (wM ad cI M) (some (.int ((f_X4_goYear M x1 x2).1))) (wM ad cI ((f_X4_goYear M x1 x2).2)) := by
  refine Ct.of (cc := cX4_goYear) (maxL := 6) (ret := (some .int)) (own := RX4) (by decide) rfl rfl (Nat.le_of_ble_eq_true rfl) ?_
  intro p e s m args below meth c A ls B hP hD hS hl
  obtain ⟨hx, hb, hret, hml, hts, hown, hlocks, hE, hA⟩ := id B
  have hK := hE.1
  have hl : lv_has ls 6 [(0, .ref (ad 0)), (1, .int x1), (2, .int x2)] := hl
  refine lv_iconst (v := (0 : Int32)) hx hb dX4_goYear_0 (by decide) ?_
  refine lv_istore_n (lv' := [(3, .int (0 : Int32)), (0, .ref (ad 0)), (1, .int x1), (2, .int x2)]) hx hb dX4_goYear_1 rfl hl (by decide) rfl (fun ls hl => ?_)
  have hF : f_X4_goYear M x1 x2 = fL_X4_goYear_2 M x1 x2 (x2.toInt.toNat + 1) (0 : Int32) M := by rw [f_X4_goYear]
  rw [hF]
  exact L_X4_goYear_2 l D cI cO tF ad M x1 x2 hn hso hix hpa B  (x2.toInt.toNat + 1) (0 : Int32) M (fr_refl _) (hso) (Int.le_refl _) (by rw [show (0 : Int32).toInt = 0 from rfl]; omega) _ _ hP hD hS ls (lv_sub hl [1, 2, 3, 0] rfl)
