/-! a new sheet -/
theorem i0 : (0 : Int32).toInt = 0 := rfl
theorem i1 : (1 : Int32).toInt = 1 := rfl
theorem i2 : (2 : Int32).toInt = 2 := rfl
theorem i60 : (60 : Int32).toInt = 60 := rfl
theorem rn_L (S : SH) (a b : Int32) : ∀ (k : Nat) (x : Int32) (v : SH), 0 ≤ x.toInt → x.toInt ≤ 60 → 60 < x.toInt + k → ∃ g : Nat → Int32, fL_X1_renew_29 S a b k x v = S_cells' v g ∧ ∀ i : Nat, i < 60 → (x.toInt ≤ i → g i = 0) ∧ ((i : Int) < x.toInt → g i = S_cells v i) := by
  intro k
  induction k with
  | zero => intro x v h0 h1 h2; exact absurd h2 (by omega)
  | succ k ih =>
    intro x v h0 h1 h2
    show ∃ g : Nat → Int32, (if (60 : Int32) ≤ x then v else fL_X1_renew_29 S a b k (x + (1 : Int32)) (S_cells' v (upd (S_cells v) x.toNatClampNeg (0 : Int32)))) = S_cells' v g ∧ _
    by_cases c : (60 : Int32) ≤ x
    · rw [if_pos c]
      refine ⟨S_cells v, rfl, fun i hi => ⟨fun h => ?_, fun _ => rfl⟩⟩
      rw [fa_le, i60] at c; omega
    · rw [if_neg c]
      rw [fa_le, i60] at c
      have e1 : (x + (1 : Int32)).toInt = x.toInt + 1 := by rw [fb_addI] <;> rw [i1] <;> omega
      obtain ⟨g, hg, hi⟩ := ih (x + (1 : Int32)) (S_cells' v (upd (S_cells v) x.toNatClampNeg (0 : Int32))) (by omega) (by omega) (by omega)
      refine ⟨g, hg, fun i hi2 => ?_⟩
      have h3 := hi i hi2
      rw [e1] at h3
      have hx := cl_toInt h0
      refine ⟨fun h => ?_, fun h => ?_⟩
      · by_cases e : (i : Int) = x.toInt
        · rw [h3.2 (by omega)]
          show upd (S_cells v) x.toNatClampNeg (0 : Int32) i = 0
          rw [show i = x.toNatClampNeg by omega, pk_us]
        · exact h3.1 (by omega)
      · rw [h3.2 (by omega)]
        show upd (S_cells v) x.toNatClampNeg (0 : Int32) i = S_cells v i
        rw [pk_un (by omega)]
theorem sn_L (M : MS) {a : Int32} (b c : Int32) (ha : vp_in a 4) : ∀ (k : Nat) (x : Int32) (v : MS), 0 ≤ x.toInt → x.toInt ≤ 60 → 60 < x.toInt + k → ∃ g : Nat → Int32, fL_X4_sheet_57 M a b c k x v = ((1 : Int32), M_cells' v g) ∧ ∀ n : Nat, ((60 * a.toNatClampNeg + x.toInt ≤ (n : Int) ∧ n < 60 * a.toNatClampNeg + 60) → g n = 0) ∧ (¬ (60 * a.toNatClampNeg + x.toInt ≤ (n : Int) ∧ n < 60 * a.toNatClampNeg + 60) → g n = M_cells v n) := by
  intro k
  induction k with
  | zero => intro x v h0 h1 h2; exact absurd h2 (by omega)
  | succ k ih =>
    intro x v h0 h1 h2
    show ∃ g : Nat → Int32, (if (60 : Int32) ≤ x then ((1 : Int32), v) else fL_X4_sheet_57 M a b c k (x + (1 : Int32)) (M_cells' v (upd (M_cells v) (((60 : Int32) * a) + x).toNatClampNeg (0 : Int32)))) = ((1 : Int32), M_cells' v g) ∧ _
    by_cases cc : (60 : Int32) ≤ x
    · rw [if_pos cc]
      rw [fa_le, i60] at cc
      exact ⟨M_cells v, rfl, fun n => ⟨fun h => by omega, fun _ => rfl⟩⟩
    · rw [if_neg cc]
      rw [fa_le, i60] at cc
      have e1 : (x + (1 : Int32)).toInt = x.toInt + 1 := by rw [fb_addI] <;> rw [i1] <;> omega
      obtain ⟨g, hg, hi⟩ := ih (x + (1 : Int32)) (M_cells' v (upd (M_cells v) (((60 : Int32) * a) + x).toNatClampNeg (0 : Int32))) (by omega) (by omega) (by omega)
      refine ⟨g, hg, fun n => ?_⟩
      have h3 := hi n
      rw [e1] at h3
      have hx := cl_toInt h0
      have hc : M_cells (M_cells' v (upd (M_cells v) (((60 : Int32) * a) + x).toNatClampNeg (0 : Int32))) n = upd (M_cells v) (60 * a.toNatClampNeg + x.toNatClampNeg) (0 : Int32) n := by rw [← ci_eq ha h0 (by omega)]
      rw [hc] at h3
      refine ⟨fun h => ?_, fun h => ?_⟩
      · by_cases e : n = 60 * a.toNatClampNeg + x.toNatClampNeg
        · rw [h3.2 (by omega), e, pk_us]
        · exact h3.1 (by omega)
      · rw [h3.2 (by omega), pk_un (by omega)]
theorem so_r {k : Int32} (h : ¬ f_X4_isSort k = 0) : 0 ≤ k.toInt ∧ k.toInt ≤ 2 := wi_r h
theorem rel_sheet {X : XS} {M : MS} (hR : Rel X M) (x1 x2 x3 : Int32) : (f_X3_sheet X x1 x2 x3).1 = (f_X4_sheet M x1 x2 x3).1 ∧ Rel (f_X3_sheet X x1 x2 x3).2 (f_X4_sheet M x1 x2 x3).2 := by
  have hR' := hR.fault (0 : Int32)
  unfold f_X3_sheet f_X4_sheet
  rw [sh_ite, lane_eq]
  by_cases c1 : f_X4_isSheet x1 = 0
  · simp only [if_pos c1]; exact ⟨trivial, hR'⟩
  · simp only [if_neg c1]
    have hj := sh_cl (sh_in c1)
    have hs := hR.2.2.2 _ hj
    by_cases c2 : f_X4_isSort x2 = 0
    · simp only [if_pos c2]; exact ⟨trivial, hR'⟩
    · simp only [if_neg c2]
      by_cases c3 : x3 ≤ (60 : Int32)
      · rw [if_pos c3, if_pos c3]
        by_cases c4 : 0 ≤ x3
        · rw [if_pos c4, if_pos c4]
          rw [fa_le, i60] at c3
          rw [fa_le, i0] at c4
          obtain ⟨C, hC, hC2⟩ := sn_L M (a := x1) x2 x3 (sh_in c1) 61 (0 : Int32) (M_sheetLong' (M_sorts' (M_fault' M (0 : Int32)) (upd (M_sorts M) x1.toNatClampNeg x2)) (upd (M_sheetLong M) x1.toNatClampNeg x3)) (by decide) (by decide) (by decide)
          rw [hC]
          have e3 : (if (0 : Int32) < (if (60 : Int32) < x3 then (60 : Int32) else x3) then (if (60 : Int32) < x3 then (60 : Int32) else x3) else (0 : Int32)) = x3 := by
            rw [if_neg (show ¬ (60 : Int32) < x3 by rw [fa_lt, i60]; omega)]
            by_cases c5 : (0 : Int32) < x3
            · rw [if_pos c5]
            · rw [if_neg c5]; rw [fa_lt, i0] at c5; rw [fa_eq, i0]; omega
          obtain ⟨g, hg, hg2⟩ := rn_L ((X_sheets X) x1.toNatClampNeg) x2 x3 61 (0 : Int32) (S_held' (S_length' (S_lane' ((X_sheets X) x1.toNatClampNeg) x2) x3) (1 : Int32)) (by decide) (by decide) (by decide)
          have e4 : f_X1_renew ((X_sheets X) x1.toNatClampNeg) x2 x3 = S_cells' (S_held' (S_length' (S_lane' ((X_sheets X) x1.toNatClampNeg) x2) x3) (1 : Int32)) g := by
            unfold f_X1_renew
            rw [e3, hg]
          rw [e4]
          refine ⟨rfl, hR'.shs (S := upd (M_sorts M) x1.toNatClampNeg x2) (L := upd (M_sheetLong M) x1.toNatClampNeg x3) (C := C) (fun j hj2 => ?_)⟩
          rw [i0] at hC2 hg2
          by_cases e : j = x1.toNatClampNeg
          · rw [e, up_s, pk_us, pk_us]
            refine ⟨Or.inr ⟨rfl, rfl, so_r c2, rfl, fun i hi => ?_⟩, ⟨c4, c3⟩, ⟨c4, c3⟩⟩
            show g i = C (60 * x1.toNatClampNeg + i)
            rw [(hg2 i hi).1 (by omega), (hC2 _).1 (by omega)]
          · rw [up_n _ _ e, pk_un e, pk_un e]
            have hs2 := hR.2.2.2 j hj2
            have e5 : ∀ i : Nat, i < 60 → C (60 * j + i) = M_cells M (60 * j + i) := fun i hi => (hC2 _).2 (by omega)
            refine ⟨?_, hs2.2⟩
            rcases hs2.1 with ⟨a, b⟩ | ⟨a, b, c, d, f⟩
            · exact Or.inl ⟨a, b⟩
            · refine Or.inr ⟨a, b, c, d, fun i hi => ?_⟩
              show S_cells (X_sheets X j) i = C (60 * j + i)
              rw [e5 i hi]; exact f i hi
        · rw [if_neg c4, if_neg c4]
          exact ⟨rfl, hR'.fault _⟩
      · rw [if_neg c3, if_neg c3]
        exact ⟨rfl, hR'⟩
