/-! a piece of a sheet is copied -/
theorem sp_ite {α : Type} (S : SH) (i n : Int32) (A B : α) : (if f_X1_spans S i n = 0 then A else B) = (if i < 0 then A else (if n < 0 then A else (if (S_length S) < i then A else (if ((S_length S) - i) < n then A else B)))) := by
  unfold f_X1_spans
  by_cases c1 : i < 0
  · rw [if_pos c1, if_pos c1, if_pos rfl]
  · rw [if_neg c1, if_neg c1]
    by_cases c2 : n < 0
    · rw [if_pos c2, if_pos c2, if_pos rfl]
    · rw [if_neg c2, if_neg c2]
      by_cases c3 : (S_length S) < i
      · rw [if_pos c3, if_pos c3, if_pos rfl]
      · rw [if_neg c3, if_neg c3]
        by_cases c4 : ((S_length S) - i) < n
        · rw [if_pos c4, if_pos c4, if_pos rfl]
        · rw [if_neg c4, if_neg c4, if_neg (by decide)]
theorem sp_chain {α : Type} (S T : SH) (i j n : Int32) (A B : α) : (if i < 0 then A else (if j < 0 then A else (if n < 0 then A else (if (S_length S) < i then A else (if (S_length T) < j then A else (if ((S_length S) - i) < n then A else (if n ≤ ((S_length T) - j) then B else A))))))) = (if f_X1_spans S i n = 0 then A else (if f_X1_spans T j n = 0 then A else B)) := by
  rw [sp_ite, sp_ite, le_ite]
  by_cases a1 : i < 0 <;> by_cases a2 : j < 0 <;> by_cases a3 : n < 0 <;> by_cases a4 : (S_length S) < i <;> by_cases a5 : (S_length T) < j <;> by_cases a6 : ((S_length S) - i) < n <;> by_cases a7 : ((S_length T) - j) < n <;> simp only [a1, a2, a3, a4, a5, a6, a7, if_true, if_false]
theorem cf_1 (f : Nat → Int32) {s d q N : Nat} (ho : d ≤ s ∨ s + N ≤ d) (hq : q < N) : upd (va_cpy f f s d q) (d + q) (va_cpy f f s d q (s + q)) = va_cpy f f s d (q + 1) := by
  funext m
  by_cases e : m = d + q
  · rw [e, pk_us]
    unfold va_cpy
    rw [if_neg (by omega), if_pos (by omega)]
    congr 1; omega
  · rw [pk_un e]
    unfold va_cpy
    by_cases c : d ≤ m ∧ m < d + q
    · rw [if_pos c, if_pos (by omega)]
    · rw [if_neg c, if_neg (by omega)]
theorem cf_2 (f : Nat → Int32) {s d q N : Nat} (ho : s ≤ d ∨ d + N ≤ s) (hq : q < N) : upd (va_cpy f f (s + N - q) (d + N - q) q) (d + (N - 1 - q)) (va_cpy f f (s + N - q) (d + N - q) q (s + (N - 1 - q))) = va_cpy f f (s + N - (q + 1)) (d + N - (q + 1)) (q + 1) := by
  funext m
  by_cases e : m = d + (N - 1 - q)
  · rw [e, pk_us]
    unfold va_cpy
    rw [if_neg (by omega), if_pos (by omega)]
    congr 1; omega
  · rw [pk_un e]
    unfold va_cpy
    by_cases c : d + N - q ≤ m ∧ m < d + N - q + q
    · rw [if_pos c, if_pos (by omega)]
      congr 1; omega
    · rw [if_neg c, if_neg (by omega)]
theorem ci3 {x i c : Int32} (hx : vp_in x 4) (h0 : 0 ≤ i.toInt) (h1 : i.toInt + c.toInt ≤ 60) (h2 : 0 ≤ c.toInt) : (((60 : Int32) * x + i) + c).toNatClampNeg = (60 * x.toNatClampNeg + i.toNatClampNeg) + c.toNatClampNeg := by
  have h3 := vp_in_iff.mp hx
  have h4 := cell_at hx h0 (show i.toInt ≤ 60 by omega)
  have h5 : (((60 : Int32) * x + i) + c).toInt = 60 * x.toInt + i.toInt + c.toInt := by rw [fb_addI] <;> rw [h4] <;> omega
  rw [Int32.toNatClampNeg, Int32.toNatClampNeg, Int32.toNatClampNeg, Int32.toNatClampNeg, h5]
  omega
theorem cp_F (M : MS) {x1 x2 x3 x4 x5 : Int32} (x6 : Int32) (a1 : vp_in x1 4) (a3 : vp_in x3 4) (a2 : 0 ≤ x2.toInt ∧ x2.toInt + x5.toInt ≤ 60) (a4 : 0 ≤ x4.toInt ∧ x4.toInt + x5.toInt ≤ 60) (a5 : 0 ≤ x5.toInt) {s d : Nat} (es : s = 60 * x1.toNatClampNeg + x2.toNatClampNeg) (ed : d = 60 * x3.toNatClampNeg + x4.toNatClampNeg) (ho : d ≤ s ∨ s + x5.toNatClampNeg ≤ d) :
    ∀ (k : Nat) (x f : Int32), 0 ≤ x.toInt → x.toInt ≤ x5.toInt → x5.toInt - x.toInt < k → fL_X4_copy_166 M x1 x2 x3 x4 x5 x6 (0 : Int32) k x f (va_cpy (M_cells M) (M_cells M) s d x.toNatClampNeg) = (x5, M_cells' (M_fault' M f) (va_cpy (M_cells M) (M_cells M) s d x5.toNatClampNeg)) := by
  intro k
  induction k with
  | zero => intro x f h0 h1 h2; exact absurd h2 (by omega)
  | succ k ih =>
    intro x f h0 h1 h2
    unfold fL_X4_copy_166
    by_cases c : x5 ≤ x
    · rw [if_pos c]
      rw [fa_le] at c
      rw [show x = x5 from (fa_eq _ _).mpr (by omega)]
    · rw [if_neg c, if_pos rfl]
      rw [fa_le] at c
      have e1 : (x + (1 : Int32)).toInt = x.toInt + 1 := by rw [fb_addI] <;> rw [i1] <;> omega
      have e2 : (x + (1 : Int32)).toNatClampNeg = x.toNatClampNeg + 1 := by rw [Int32.toNatClampNeg, Int32.toNatClampNeg, e1]; omega
      have hq : x.toNatClampNeg < x5.toNatClampNeg := by rw [Int32.toNatClampNeg, Int32.toNatClampNeg]; omega
      rw [ci3 a3 a4.1 (by omega) h0, ci3 a1 a2.1 (by omega) h0, ← es, ← ed, cf_1 _ ho hq, ← e2]
      exact ih _ f (by omega) (by omega) (by omega)
theorem cp_B (M : MS) {x1 x2 x3 x4 x5 : Int32} (x6 : Int32) (a1 : vp_in x1 4) (a3 : vp_in x3 4) (a2 : 0 ≤ x2.toInt ∧ x2.toInt + x5.toInt ≤ 60) (a4 : 0 ≤ x4.toInt ∧ x4.toInt + x5.toInt ≤ 60) (a5 : 0 ≤ x5.toInt) {s d : Nat} (es : s = 60 * x1.toNatClampNeg + x2.toNatClampNeg) (ed : d = 60 * x3.toNatClampNeg + x4.toNatClampNeg) (ho : s ≤ d ∨ d + x5.toNatClampNeg ≤ s) :
    ∀ (k : Nat) (x f : Int32), 0 ≤ x.toInt → x.toInt ≤ x5.toInt → x5.toInt - x.toInt < k → fL_X4_copy_166 M x1 x2 x3 x4 x5 x6 (1 : Int32) k x f (va_cpy (M_cells M) (M_cells M) (s + x5.toNatClampNeg - x.toNatClampNeg) (d + x5.toNatClampNeg - x.toNatClampNeg) x.toNatClampNeg) = (x5, M_cells' (M_fault' M f) (va_cpy (M_cells M) (M_cells M) s d x5.toNatClampNeg)) := by
  intro k
  induction k with
  | zero => intro x f h0 h1 h2; exact absurd h2 (by omega)
  | succ k ih =>
    intro x f h0 h1 h2
    unfold fL_X4_copy_166
    by_cases c : x5 ≤ x
    · rw [if_pos c]
      rw [fa_le] at c
      rw [show x = x5 from (fa_eq _ _).mpr (by omega), Nat.add_sub_cancel, Nat.add_sub_cancel]
    · have cr := cp_rev (n := x5) (q := x) ⟨a5, by omega⟩ h0 c
      rw [if_neg c, if_neg (by decide)]
      rw [fa_le] at c
      have e1 : (x + (1 : Int32)).toInt = x.toInt + 1 := by rw [fb_addI] <;> rw [i1] <;> omega
      have e2 : (x + (1 : Int32)).toNatClampNeg = x.toNatClampNeg + 1 := by rw [Int32.toNatClampNeg, Int32.toNatClampNeg, e1]; omega
      have hq : x.toNatClampNeg < x5.toNatClampNeg := by rw [Int32.toNatClampNeg, Int32.toNatClampNeg]; omega
      have e3 : (x5 - (1 : Int32)).toInt = x5.toInt - 1 := by rw [fb_subI] <;> rw [i1] <;> omega
      have e4 : ((x5 - (1 : Int32)) - x).toInt = x5.toInt - 1 - x.toInt := by rw [fb_subI] <;> rw [e3] <;> omega
      have e5 : ((x5 - (1 : Int32)) - x).toNatClampNeg = x5.toNatClampNeg - 1 - x.toNatClampNeg := by rw [Int32.toNatClampNeg, Int32.toNatClampNeg, Int32.toNatClampNeg, e4]; omega
      rw [ci3 a3 a4.1 (by omega) cr.1, ci3 a1 a2.1 (by omega) cr.1, ← es, ← ed, e5, cf_2 _ ho hq, ← e2]
      exact ih _ f (by omega) (by omega) (by omega)
theorem sp_r {S : SH} {i n : Int32} (hL : 0 ≤ (S_length S).toInt ∧ (S_length S).toInt ≤ 60) (h : ¬ f_X1_spans S i n = 0) : 0 ≤ i.toInt ∧ 0 ≤ n.toInt ∧ i.toInt + n.toInt ≤ (S_length S).toInt := by
  unfold f_X1_spans at h
  by_cases c1 : i < 0
  · rw [if_pos c1] at h; exact absurd rfl h
  · rw [if_neg c1] at h
    by_cases c2 : n < 0
    · rw [if_pos c2] at h; exact absurd rfl h
    · rw [if_neg c2] at h
      by_cases c3 : (S_length S) < i
      · rw [if_pos c3] at h; exact absurd rfl h
      · rw [if_neg c3] at h
        by_cases c4 : ((S_length S) - i) < n
        · rw [if_pos c4] at h; exact absurd rfl h
        · rw [fa_lt, i0] at c1 c2
          rw [fa_lt] at c3 c4
          rw [fb_subI (by omega) (by omega)] at c4
          omega
theorem va_0 (f : Nat → Int32) (s d : Nat) : va_cpy f f s d 0 = f := by
  funext m
  unfold va_cpy
  rw [if_neg (by omega)]
theorem rel_copy {X : XS} {M : MS} (hR : Rel X M) (x1 x2 x3 x4 x5 : Int32) : (f_X3_copy X x1 x2 x3 x4 x5).1 = (f_X4_copy M x1 x2 x3 x4 x5).1 ∧ Rel (f_X3_copy X x1 x2 x3 x4 x5).2 (f_X4_copy M x1 x2 x3 x4 x5).2 := by
  have hR' := hR.fault (0 : Int32)
  unfold f_X3_copy f_X4_copy
  simp only [sh_ite]
  by_cases c1 : f_X4_isSheet x1 = 0
  · simp only [if_pos c1, ite_self]; exact ⟨trivial, hR'⟩
  · simp only [if_neg c1]
    by_cases c2 : f_X4_isSheet x3 = 0
    · simp only [if_pos c2]; exact ⟨trivial, hR'⟩
    · simp only [if_neg c2]
      have hs1 := hR.2.2.2 _ (sh_cl (sh_in c1))
      have hs3 := hR.2.2.2 _ (sh_cl (sh_in c2))
      rcases hs1.1 with ⟨a, b⟩ | ⟨a, b, c, d, f⟩
      · rw [if_pos a, if_pos b]; exact ⟨rfl, hR'.fault _⟩
      · have n9 : ¬ M_sorts M x1.toNatClampNeg = (-9 : Int32) := by rw [b]; exact lane_n9 c
        rw [if_neg (by rw [a]; decide), if_neg n9]
        rcases hs3.1 with ⟨a', b'⟩ | ⟨a', b', c', d', f'⟩
        · rw [if_pos a', if_pos b']; exact ⟨rfl, hR'.fault _⟩
        · have n9' : ¬ M_sorts M x3.toNatClampNeg = (-9 : Int32) := by rw [b']; exact lane_n9 c'
          rw [if_neg (by rw [a']; decide), if_neg n9', b, b']
          by_cases c3 : S_lane (X_sheets X x1.toNatClampNeg) = S_lane (X_sheets X x3.toNatClampNeg)
          · rw [if_pos c3, if_pos c3, ← d, ← d', sp_chain]
            by_cases c4 : f_X1_spans (X_sheets X x1.toNatClampNeg) x2 x5 = 0
            · rw [if_pos c4, if_pos c4]; exact ⟨rfl, hR'.fault _⟩
            · rw [if_neg c4, if_neg c4]
              by_cases c5 : f_X1_spans (X_sheets X x3.toNatClampNeg) x4 x5 = 0
              · rw [if_pos c5, if_pos c5]; exact ⟨rfl, hR'.fault _⟩
              · rw [if_neg c5, if_neg c5]
                have p4 := sp_r hs1.2.1 c4
                have p5 := sp_r hs3.2.1 c5
                have L1 := hs1.2.1
                have L3 := hs3.2.1
                have z1 := vp_in_iff.mp (sh_in c1)
                have z3 := vp_in_iff.mp (sh_in c2)
                have y1 := cl_toInt z1.1
                have y3 := cl_toInt z3.1
                have y2 := cl_toInt p4.1
                have y4 := cl_toInt p5.1
                have y5 := cl_toInt p5.2.1
                have key : (if x4 ≤ x2 then fL_X4_copy_166 M x1 x2 x3 x4 x5 (1 : Int32) (0 : Int32) (x5.toInt.toNat + 1) (0 : Int32) (0 : Int32) (M_cells M) else fL_X4_copy_166 M x1 x2 x3 x4 x5 (1 : Int32) (1 : Int32) (x5.toInt.toNat + 1) (0 : Int32) (0 : Int32) (M_cells M)) = (x5, M_cells' (M_fault' M (0 : Int32)) (va_cpy (M_cells M) (M_cells M) (60 * x1.toNatClampNeg + x2.toNatClampNeg) (60 * x3.toNatClampNeg + x4.toNatClampNeg) x5.toNatClampNeg)) := by
                  by_cases c6 : x4 ≤ x2
                  · rw [if_pos c6]
                    rw [fa_le] at c6
                    have h := cp_F M (x1 := x1) (x2 := x2) (x3 := x3) (x4 := x4) (x5 := x5) (1 : Int32) (sh_in c1) (sh_in c2) ⟨p4.1, by omega⟩ ⟨p5.1, by omega⟩ p5.2.1 rfl rfl (by omega) (x5.toInt.toNat + 1) (0 : Int32) (0 : Int32) (by decide) (by rw [i0]; omega) (by rw [i0]; omega)
                    rw [show (0 : Int32).toNatClampNeg = 0 from rfl, va_0] at h
                    exact h
                  · rw [if_neg c6]
                    rw [fa_le] at c6
                    have h := cp_B M (x1 := x1) (x2 := x2) (x3 := x3) (x4 := x4) (x5 := x5) (1 : Int32) (sh_in c1) (sh_in c2) ⟨p4.1, by omega⟩ ⟨p5.1, by omega⟩ p5.2.1 rfl rfl (by omega) (x5.toInt.toNat + 1) (0 : Int32) (0 : Int32) (by decide) (by rw [i0]; omega) (by rw [i0]; omega)
                    rw [show (0 : Int32).toNatClampNeg = 0 from rfl, va_0] at h
                    exact h
                rw [key]
                refine ⟨rfl, hR'.shs (S := M_sorts M) (L := M_sheetLong M) (fun j hj2 => ?_)⟩
                have hs := hR.2.2.2 j hj2
                by_cases e : j = x3.toNatClampNeg
                · rw [e, up_s]
                  refine ⟨Or.inr ⟨a', b', c', d', fun i hi => ?_⟩, hs3.2⟩
                  show va_cpy (S_cells ((X_sheets X) x1.toNatClampNeg)) (S_cells ((X_sheets X) x3.toNatClampNeg)) x2.toNatClampNeg x4.toNatClampNeg x5.toNatClampNeg i = va_cpy (M_cells M) (M_cells M) (60 * x1.toNatClampNeg + x2.toNatClampNeg) (60 * x3.toNatClampNeg + x4.toNatClampNeg) x5.toNatClampNeg (60 * x3.toNatClampNeg + i)
                  unfold va_cpy
                  by_cases c7 : x4.toNatClampNeg ≤ i ∧ i < x4.toNatClampNeg + x5.toNatClampNeg
                  · rw [if_pos c7, if_pos (by omega), f _ (by omega)]
                    show M_cells M _ = M_cells M _
                    congr 1; omega
                  · rw [if_neg c7, if_neg (by omega)]; exact f' i hi
                · rw [up_n _ _ e]
                  refine ⟨?_, hs.2⟩
                  rcases hs.1 with ⟨g1, g2⟩ | ⟨g1, g2, g3, g4, g5⟩
                  · exact Or.inl ⟨g1, g2⟩
                  · refine Or.inr ⟨g1, g2, g3, g4, fun i hi => ?_⟩
                    show S_cells (X_sheets X j) i = va_cpy (M_cells M) (M_cells M) (60 * x1.toNatClampNeg + x2.toNatClampNeg) (60 * x3.toNatClampNeg + x4.toNatClampNeg) x5.toNatClampNeg (60 * j + i)
                    unfold va_cpy
                    rw [if_neg (by omega)]; exact g5 i hi
          · rw [if_neg c3, if_neg c3]; exact ⟨rfl, hR'.fault _⟩
