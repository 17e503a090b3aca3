theorem r150 {M v : MS} {e x3 : Int32} (ha : 0 ≤ (M_at v).toInt) (he : e.toInt ≤ 240) : 0 ≤ (M_at (fL_X4_readPerson_150 M e x3 1 v).2).toInt ∧ (¬ (fL_X4_readPerson_150 M e x3 1 v).1 = 0 → M_readPeople (fL_X4_readPerson_150 M e x3 1 v).2 = M_readPeople v + (1 : Int32)) := by
  rw [fL_X4_readPerson_150]
  split
  · exact ⟨dg_at ha he, fun h => absurd rfl h⟩
  · refine ⟨dg_at ha he, fun _ => ?_⟩
    show M_readPeople (f_X4_digit v e (0 : Int32) (1 : Int32)).2 + (1 : Int32) = _
    rw [dg_rp]
theorem r119 {M v : MS} {e x3 : Int32} (ha : 0 ≤ (M_at v).toInt) (he : e.toInt ≤ 240) : 0 ≤ (M_at (fL_X4_readPerson_119 M e x3 1 v).2).toInt ∧ (¬ (fL_X4_readPerson_119 M e x3 1 v).1 = 0 → M_readPeople (fL_X4_readPerson_119 M e x3 1 v).2 = M_readPeople v + (1 : Int32)) := by
  rw [fL_X4_readPerson_119]
  split
  · exact ⟨dg_at ha he, fun h => absurd rfl h⟩
  · generalize hw : (M_read' (f_X4_digit v e (1 : Int32) (9 : Int32)).2 (upd (M_read (f_X4_digit v e (1 : Int32) (9 : Int32)).2) (x3 + (2 : Int32)).toNatClampNeg ((f_X4_digit v e (1 : Int32) (9 : Int32)).1))) = w
    have h1 : 0 ≤ (M_at w).toInt := by rw [← hw]; exact dg_at ha he
    have h2 : M_readPeople w = M_readPeople v := by rw [← hw]; exact dg_rp
    have h3 := r150 (M := M) (x3 := x3) h1 he
    rw [h2] at h3
    exact h3
theorem r80 {M v : MS} {e x3 : Int32} (ha : 0 ≤ ((M_at v) + (1 : Int32)).toInt) (he : e.toInt ≤ 240) : 0 ≤ (M_at (fL_X4_readPerson_80 M e x3 1 v).2).toInt ∧ (¬ (fL_X4_readPerson_80 M e x3 1 v).1 = 0 → M_readPeople (fL_X4_readPerson_80 M e x3 1 v).2 = M_readPeople v + (1 : Int32)) := by
  rw [fL_X4_readPerson_80]
  have h0 : 0 ≤ (M_at (M_at' v ((M_at v) + (1 : Int32)))).toInt := ha
  have hR : M_readPeople (M_at' v ((M_at v) + (1 : Int32))) = M_readPeople v := rfl
  generalize M_at' v ((M_at v) + (1 : Int32)) = Y at h0 hR ⊢
  split
  · exact ⟨td_at (M := Y) (e := e) (x := (3 : Int32)) h0 he, fun h => absurd rfl h⟩
  · generalize hw : (M_read' (f_X4_twoDigits Y e (3 : Int32)).2 (upd (M_read (f_X4_twoDigits Y e (3 : Int32)).2) (x3 + (1 : Int32)).toNatClampNeg ((f_X4_twoDigits Y e (3 : Int32)).1))) = w
    have h1 : 0 ≤ (M_at w).toInt := by rw [← hw]; exact td_at (M := Y) (e := e) (x := (3 : Int32)) h0 he
    have h2 : M_readPeople w = M_readPeople v := by rw [← hw, ← hR]; exact td_rp (M := Y) (e := e) (x := (3 : Int32))
    have h3 := r119 (M := M) (x3 := x3) h1 he
    rw [h2] at h3
    exact h3
theorem rpn {M : MS} {e : Int32} (ha : 0 ≤ (M_at M).toInt) (he : e.toInt ≤ 240) : 0 ≤ (M_at (f_X4_readPerson M e).2).toInt ∧ (¬ (f_X4_readPerson M e).1 = 0 → M_readPeople (f_X4_readPerson M e).2 = M_readPeople M + (1 : Int32)) := by
  unfold f_X4_readPerson
  split
  · split
    · exact ⟨ha, fun h => absurd rfl h⟩
    · rename_i h1 h2
      exact absurd pk_us h2
  · rename_i c
    have h1 := at_s ha he c
    split
    · split
      · exact ⟨ha, fun h => absurd rfl h⟩
      · exact r80 (v := M_read' M _) h1 he
    · split
      · split
        · exact ⟨ha, fun h => absurd rfl h⟩
        · exact r80 (v := M_read' M _) h1 he
      · split
        · split
          · exact ⟨ha, fun h => absurd rfl h⟩
          · exact r80 (v := M_read' M _) h1 he
        · split
          · exact ⟨ha, fun h => absurd rfl h⟩
          · exact r80 (v := M_read' M _) h1 he
theorem rpn_at {M : MS} {e : Int32} (ha : 0 ≤ (M_at M).toInt) (he : e.toInt ≤ 240) (hr : 0 ≤ (M_readPeople M).toInt ∧ (M_readPeople M).toInt ≤ 5) : 0 ≤ (M_at (f_X4_readPerson M e).2).toInt := (rpn ha he).1
theorem inc5 {k : Int32} (h : 0 ≤ k.toInt ∧ k.toInt ≤ 5) : (k + (1 : Int32)).toInt = k.toInt + 1 := by
  rw [fb_addI] <;> rw [show (1 : Int32).toInt = 1 from rfl] <;> omega
theorem rpn_6 {M : MS} {e : Int32} (ha : 0 ≤ (M_at M).toInt) (he : e.toInt ≤ 240) (hr : 0 ≤ (M_readPeople M).toInt ∧ (M_readPeople M).toInt ≤ 5) (c : ¬ (f_X4_readPerson M e).1 = 0) : 0 ≤ (M_readPeople (f_X4_readPerson M e).2).toInt ∧ (M_readPeople (f_X4_readPerson M e).2).toInt ≤ 6 := by
  rw [(rpn ha he).2 c, inc5 hr]
  omega
theorem rpn_k {M : MS} {e x f : Int32} {k : Nat} (ha : 0 ≤ (M_at (f_X4_isSign M e f).2).toInt) (he : e.toInt ≤ 240) (hr : 0 ≤ (M_readPeople (f_X4_isSign M e f).2).toInt ∧ (M_readPeople (f_X4_isSign M e f).2).toInt ≤ 5) (c : ¬ (f_X4_readPerson (f_X4_isSign M e f).2 e).1 = 0) (hk : (6 - (M_readPeople M).toInt).toNat < k + 1) : (6 - (M_readPeople (f_X4_readPerson (f_X4_isSign M e f).2 e).2).toInt).toNat < k := by
  rw [(rpn ha he).2 c, inc5 hr]
  rw [sg_rp] at *
  omega
theorem rt_0 {M : MS} {e : Int32} : 0 ≤ (M_readPeople (f_X4_twoDigits (f_X4_isSign (M_readPeople' M (0 : Int32)) e (116 : Int32)).2 e (4 : Int32)).2).toInt ∧ (M_readPeople (f_X4_twoDigits (f_X4_isSign (M_readPeople' M (0 : Int32)) e (116 : Int32)).2 e (4 : Int32)).2).toInt ≤ 6 := by
  rw [td_rp, sg_rp]
  show 0 ≤ (0 : Int32).toInt ∧ (0 : Int32).toInt ≤ 6
  exact ⟨by decide, by decide⟩
theorem rt_0k {M : MS} {e : Int32} : (6 - (M_readPeople (f_X4_twoDigits (f_X4_isSign (M_readPeople' M (0 : Int32)) e (116 : Int32)).2 e (4 : Int32)).2).toInt).toNat < 7 := by
  rw [td_rp, sg_rp]
  show (6 - (0 : Int32).toInt).toNat < 7
  decide
theorem tw_x {M : MS} {s i n : Int32} (hs : vp_in s 4) (h : 0 ≤ i.toInt ∧ 0 ≤ n.toInt ∧ i.toInt + n.toInt ≤ 60) : 0 ≤ ((60 : Int32) * s + i).toInt ∧ (((60 : Int32) * s + i) + n).toInt ≤ 240 := by
  have h1 := vp_in_iff.mp hs
  have h2 := cell_at hs h.1 (by omega)
  have h3 : (((60 : Int32) * s + i) + n).toInt = ((60 : Int32) * s + i).toInt + n.toInt := fb_addI (by omega) (by omega)
  omega
theorem tw_a {M : MS} {s k i n : Int32} (hL : ∀ i : Nat, i < 4 → 0 ≤ (M_sheetLong M i).toInt ∧ (M_sheetLong M i).toInt ≤ 60) (hs : vp_in s 4) (h : f_X4_against (M_fault' M (0 : Int32)) s k i n = 0) : 0 ≤ ((60 : Int32) * s + i).toInt := (tw_x (M := M) hs (ag_r (M := M_fault' M (0 : Int32)) hL hs h)).1
theorem tw_e {M : MS} {s k i n : Int32} (hL : ∀ i : Nat, i < 4 → 0 ≤ (M_sheetLong M i).toInt ∧ (M_sheetLong M i).toInt ≤ 60) (hs : vp_in s 4) (h : f_X4_against (M_fault' M (0 : Int32)) s k i n = 0) : (((60 : Int32) * s + i) + n).toInt ≤ 240 := (tw_x (M := M) hs (ag_r (M := M_fault' M (0 : Int32)) hL hs h)).2
/-! a year's pairs -/
theorem ya_x {a r n : Int32} {N : Int} (h0 : 0 ≤ a.toInt) (hn : 0 ≤ n.toInt ∧ n.toInt ≤ 20) (h1 : a.toInt + 2 * n.toInt ≤ N) (hN : N ≤ 240) (hr : 0 ≤ r.toInt) (c : ¬ n ≤ r) : (a + ((2 : Int32) * r)).toInt = a.toInt + 2 * r.toInt ∧ ((a + ((2 : Int32) * r)) + (1 : Int32)).toInt = a.toInt + 2 * r.toInt + 1 ∧ r.toInt < n.toInt := by
  rw [fa_le] at c
  have h2 : ((2 : Int32) * r).toInt = 2 * r.toInt := by
    rw [fb_mulI] <;> rw [show (2 : Int32).toInt = 2 from rfl] <;> omega
  have h3 : (a + ((2 : Int32) * r)).toInt = a.toInt + 2 * r.toInt := by rw [fb_addI (by omega) (by omega), h2]
  refine ⟨h3, ?_, by omega⟩
  rw [fb_addI] <;> rw [show (1 : Int32).toInt = 1 from rfl] <;> omega
theorem ya_ix {M : MS} {s k i n : Int32} (hL : ∀ i : Nat, i < 4 → 0 ≤ (M_sheetLong M i).toInt ∧ (M_sheetLong M i).toInt ≤ 60) (hs : vp_in s 4) (hw : ¬ f_X4_within n (0 : Int32) (20 : Int32) = 0) (h : f_X4_against (M_fault' M (0 : Int32)) s k i ((2 : Int32) * n) = 0) : ∀ r : Int32, 0 ≤ r.toInt → ¬ n ≤ r → vp_in (((60 : Int32) * s + i) + ((2 : Int32) * r)) 240 ∧ vp_in ((((60 : Int32) * s + i) + ((2 : Int32) * r)) + (1 : Int32)) 240 := by
  intro r hr c
  have h1 := wi_r hw
  rw [show (0 : Int32).toInt = 0 from rfl, show (20 : Int32).toInt = 20 from rfl] at h1
  have h2 := ag_r (M := M_fault' M (0 : Int32)) hL hs h
  have h3 : ((2 : Int32) * n).toInt = 2 * n.toInt := by
    rw [fb_mulI] <;> rw [show (2 : Int32).toInt = 2 from rfl] <;> omega
  have h4 := vp_in_iff.mp hs
  have h5 := cell_at hs h2.1 (by omega)
  have h6 := ya_x (a := (60 : Int32) * s + i) (N := 240) (by omega) h1 (by omega) (by omega) hr c
  exact ⟨vp_in_iff.mpr ⟨by omega, by omega⟩, vp_in_iff.mpr ⟨by omega, by omega⟩⟩
theorem ya_0 {P : Int32 → Prop} : ∀ r : Int32, 0 ≤ r.toInt → r.toInt < (0 : Int32).toInt → P r := by
  intro r h0 h1
  rw [show (0 : Int32).toInt = 0 from rfl] at h1
  omega
theorem ya_step {P : Int32 → Prop} {x n : Int32} (h : ∀ r : Int32, 0 ≤ r.toInt → r.toInt < x.toInt → P r) (c : ¬ n ≤ x) (hx : P x) : ∀ r : Int32, 0 ≤ r.toInt → r.toInt < (x + (1 : Int32)).toInt → P r := by
  intro r h0 h1
  rw [lp_s c] at h1
  by_cases e : r.toInt = x.toInt
  · rw [Int32.toInt_inj.mp e]; exact hx
  · exact h r h0 (by omega)
theorem ya_pa {M : MS} {a x n : Int32} (h : ∀ r : Int32, 0 ≤ r.toInt → r.toInt < x.toInt → 0 ≤ ((M_cells M) (a + ((2 : Int32) * r)).toNatClampNeg).toInt ∧ ((M_cells M) (a + ((2 : Int32) * r)).toNatClampNeg).toInt < (M_people M).toInt) (c : n ≤ x) : ∀ r : Int32, 0 ≤ r.toInt → ¬ n ≤ r → 0 ≤ ((M_cells (f_X4_keep M)) (a + ((2 : Int32) * r)).toNatClampNeg).toInt ∧ ((M_cells (f_X4_keep M)) (a + ((2 : Int32) * r)).toNatClampNeg).toInt < (M_people (f_X4_keep M)).toInt := by
  intro r h0 hr
  rw [kf_cells (kf_keep M), kf_people (kf_keep M)]
  rw [fa_le] at c hr
  exact h r h0 (by omega)
theorem gy_L (M : MS) (x1 x2 : Int32) : ∀ (k : Nat) (x3 : Int32) (v : MS), fr v (fL_X4_goYear_2 M x1 x2 k x3 v).2 := by
  intro k
  induction k with
  | zero => intros; rfl
  | succ k ih =>
    intro x3 v
    rw [fL_X4_goYear_2]
    split
    · rfl
    · split
      · rfl
      · exact fr_trans (fr_does _ _ _) (ih _ _)
theorem gy_fr (M : MS) (x1 x2 : Int32) : fr M (f_X4_goYear M x1 x2).2 := gy_L _ _ _ _ _ _
theorem ya_n {M : MS} {x1 x2 : Int32} (hn : (M_people M).toInt ≤ 6) : (M_people (f_X4_goYear (f_X4_keep M) x1 x2).2).toInt ≤ 6 := by
  rw [fr_people (gy_fr _ _ _), kf_people (kf_keep M)]; exact hn
theorem ya_t {M : MS} {x1 x2 : Int32} (ht : ∀ i : Nat, (i : Int) < (M_people M).toInt → ¬ M_thick M i = 0) : ∀ i : Nat, (i : Int) < (M_people (f_X4_goYear (f_X4_keep M) x1 x2).2).toInt → ¬ M_thick (f_X4_goYear (f_X4_keep M) x1 x2).2 i = 0 := by
  rw [fr_people (gy_fr _ _ _), kf_people (kf_keep M), fr_thick (gy_fr _ _ _), kf_thick (kf_keep M)]; exact ht
