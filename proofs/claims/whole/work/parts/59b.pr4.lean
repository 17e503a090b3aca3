/-! the sheets -/
theorem up_s {α : Type} (f : Nat → α) (k : Nat) (v : α) : va_up f k v k = v := if_pos rfl
theorem up_n {α : Type} (f : Nat → α) {k j : Nat} (v : α) (h : j ≠ k) : va_up f k v j = f j := if_neg h
theorem sh_ite {α : Type} (x : Int32) (A B : α) : (if (0 : Int32) ≤ x ∧ x < (4 : Int32) then A else B) = (if f_X4_isSheet x = 0 then B else A) := by
  unfold f_X4_isSheet
  rw [wi_ite]
  by_cases c1 : x < 0
  · rw [if_pos c1, if_neg (fun h => by have h2 := h.1; rw [fa_lt] at c1; rw [fa_le] at h2; omega)]
  · rw [if_neg c1]
    by_cases c2 : (3 : Int32) < x
    · rw [if_pos c2, if_neg (fun h => by have h2 := h.2; rw [fa_lt, show (3 : Int32).toInt = 3 from rfl] at c2; rw [fa_lt, show (4 : Int32).toInt = 4 from rfl] at h2; omega)]
    · rw [if_neg c2, if_pos]
      rw [fa_lt, show (0 : Int32).toInt = 0 from rfl] at c1
      rw [fa_lt, show (3 : Int32).toInt = 3 from rfl] at c2
      rw [fa_le, fa_lt, show (0 : Int32).toInt = 0 from rfl, show (4 : Int32).toInt = 4 from rfl]
      omega
theorem lane_eq (x : Int32) : f_X3_isLane x = f_X4_isSort x := rfl
theorem Rel.shs {X : XS} {M : MS} (h : Rel X M) {F : Nat → SH} {S L C : Nat → Int32} (hs : ∀ j : Nat, j < 4 → RelS (F j) (S j) (L j) (fun i => C (60 * j + i))) : Rel (X_sheets' X F) (M_cells' (M_sheetLong' (M_sorts' M S) L) C) := ⟨h.1, h.2.1, h.2.2.1, hs⟩
theorem ci_eq {x i : Int32} (hx : vp_in x 4) (h0 : 0 ≤ i.toInt) (h1 : i.toInt ≤ 60) : ((60 : Int32) * x + i).toNatClampNeg = 60 * x.toNatClampNeg + i.toNatClampNeg := by
  have h2 := vp_in_iff.mp hx
  have h3 := cell_at hx h0 h1
  rw [Int32.toNatClampNeg, Int32.toNatClampNeg, Int32.toNatClampNeg, h3]
  omega
theorem sp1 {S : SH} {i n : Int32} (e : S_length S = n) (hn : 0 ≤ n.toInt ∧ n.toInt ≤ 60) : f_X1_spans S i (1 : Int32) = f_X4_within i (0 : Int32) (n - (1 : Int32)) := by
  unfold f_X1_spans f_X4_within
  rw [e]
  by_cases c1 : i < 0
  · rw [if_pos c1, if_pos c1]
  · rw [if_neg c1, if_neg c1, if_neg (by decide)]
    rw [fa_lt, show (0 : Int32).toInt = 0 from rfl] at c1
    have e1 : (n - (1 : Int32)).toInt = n.toInt - 1 := by
      rw [fb_subI] <;> rw [show (1 : Int32).toInt = 1 from rfl] <;> omega
    by_cases c2 : n < i
    · rw [if_pos c2, if_pos (by rw [fa_lt] at c2 ⊢; omega)]
    · rw [if_neg c2]
      rw [fa_lt] at c2
      have e2 : (n - i).toInt = n.toInt - i.toInt := fb_subI (by omega) (by omega)
      by_cases c3 : n - (1 : Int32) < i
      · rw [if_pos c3, if_pos (by rw [fa_lt] at c3 ⊢; rw [e2, show (1 : Int32).toInt = 1 from rfl]; omega)]
      · rw [if_neg c3, if_neg (by rw [fa_lt] at c3 ⊢; rw [e2, show (1 : Int32).toInt = 1 from rfl]; omega)]
theorem rel_lose {X : XS} {M : MS} (hR : Rel X M) (x1 : Int32) : (f_X3_lose X x1).1 = (f_X4_lose M x1).1 ∧ Rel (f_X3_lose X x1).2 (f_X4_lose M x1).2 := by
  unfold f_X3_lose f_X4_lose
  rw [sh_ite]
  by_cases c1 : f_X4_isSheet x1 = 0
  · simp only [if_pos c1]; exact ⟨trivial, hR⟩
  · simp only [if_neg c1]
    have hj := sh_cl (sh_in c1)
    have hs := hR.2.2.2 _ hj
    have key : Rel (X_sheets' X (va_up (X_sheets X) x1.toNatClampNeg (S_held' ((X_sheets X) x1.toNatClampNeg) (0 : Int32)))) (M_sorts' M (upd (M_sorts M) x1.toNatClampNeg (-9 : Int32))) := by
      refine hR.shs (S := upd (M_sorts M) x1.toNatClampNeg (-9 : Int32)) (L := M_sheetLong M) (C := M_cells M) (fun j hj2 => ?_)
      by_cases e : j = x1.toNatClampNeg
      · rw [e, up_s, pk_us]; exact ⟨Or.inl ⟨rfl, rfl⟩, hs.2⟩
      · rw [up_n _ _ e, pk_un e]; exact hR.2.2.2 j hj2
    rcases hs.1 with ⟨a, b⟩ | ⟨a, b, c, -⟩
    · rw [if_pos a, if_pos b]; exact ⟨rfl, key⟩
    · rw [if_neg (by rw [a]; decide), if_neg (by rw [b]; intro h; rw [h] at c; exact absurd c.1 (by decide))]; exact ⟨rfl, key⟩
theorem lane_n9 {k : Int32} (h : 0 ≤ k.toInt ∧ k.toInt ≤ 2) : ¬ k = (-9 : Int32) := fun e => by rw [e] at h; exact absurd h.1 (by decide)
theorem rel_cell {X : XS} {M : MS} (hR : Rel X M) (x1 x2 x3 : Int32) : (f_X3_cell X x1 x2 x3).1 = (f_X4_cell M x1 x2 x3).1 ∧ Rel (f_X3_cell X x1 x2 x3).2 (f_X4_cell M x1 x2 x3).2 := by
  have hR' := hR.fault (0 : Int32)
  unfold f_X3_cell f_X4_cell
  rw [sh_ite, lane_eq]
  by_cases c1 : f_X4_isSheet x1 = 0
  · simp only [if_pos c1]; exact ⟨trivial, hR'⟩
  · simp only [if_neg c1]
    have hj := sh_cl (sh_in c1)
    have hs := hR.2.2.2 _ hj
    by_cases c2 : f_X4_isSort x3 = 0
    · simp only [if_pos c2]; exact ⟨trivial, hR'⟩
    · simp only [if_neg c2]
      rcases hs.1 with ⟨a, b⟩ | ⟨a, b, c, d, e⟩
      · rw [if_pos b, if_pos b]
        have e1 : f_X1_faultOf (X_sheets X x1.toNatClampNeg) x3 x2 (1 : Int32) = 1 := by unfold f_X1_faultOf; rw [if_pos a]
        rw [e1, if_neg (by decide)]
        exact ⟨rfl, hR.fault _⟩
      · have n9 : ¬ M_sorts M x1.toNatClampNeg = (-9 : Int32) := by rw [b]; exact lane_n9 c
        rw [if_neg n9, if_neg n9]
        by_cases c3 : M_sorts M x1.toNatClampNeg = x3
        · rw [if_pos c3]
          have e1 : f_X1_faultOf (X_sheets X x1.toNatClampNeg) x3 x2 (1 : Int32) = if f_X4_within x2 (0 : Int32) ((M_sheetLong M x1.toNatClampNeg) - (1 : Int32)) = 0 then (3 : Int32) else (0 : Int32) := by
            unfold f_X1_faultOf
            rw [if_neg (by rw [a]; decide), if_pos (by rw [← b]; exact c3), if_pos (by decide), sp1 d hs.2.2]
          rw [e1]
          by_cases c4 : f_X4_within x2 (0 : Int32) ((M_sheetLong M x1.toNatClampNeg) - (1 : Int32)) = 0
          · rw [if_pos c4, if_pos c4, if_neg (by decide)]
            exact ⟨rfl, hR.fault _⟩
          · rw [if_neg c4, if_neg c4, if_pos rfl]
            refine ⟨?_, hR'⟩
            have hL := hs.2.2
            have h4 := wi_r c4
            have e2 : ((M_sheetLong M x1.toNatClampNeg) - (1 : Int32)).toInt = (M_sheetLong M x1.toNatClampNeg).toInt - 1 := by
              rw [fb_subI] <;> rw [show (1 : Int32).toInt = 1 from rfl] <;> omega
            rw [e2, show (0 : Int32).toInt = 0 from rfl] at h4
            show (f_X1_at (X_sheets X x1.toNatClampNeg) x2).toInt64 = ((M_cells M) (((60 : Int32) * x1) + x2).toNatClampNeg).toInt64
            unfold f_X1_at
            rw [if_neg (by rw [fa_lt, show (0 : Int32).toInt = 0 from rfl]; omega), if_neg (by rw [fa_le, show (60 : Int32).toInt = 60 from rfl]; omega), ci_eq (sh_in c1) h4.1 (by omega)]
            have hlt : x2.toNatClampNeg < 60 := by rw [Int32.toNatClampNeg]; omega
            rw [e _ hlt]
        · rw [if_neg c3]
          have e1 : f_X1_faultOf (X_sheets X x1.toNatClampNeg) x3 x2 (1 : Int32) = 2 := by
            unfold f_X1_faultOf
            rw [if_neg (by rw [a]; decide), if_neg (by rw [← b]; exact c3)]
          rw [e1, if_neg (by decide)]
          exact ⟨rfl, hR.fault _⟩
/-- one cell on both sides -/
theorem Rel.cel {X : XS} {M : MS} (h : Rel X M) {x i : Int32} (v : Int32) (hx : vp_in x 4) (h0 : 0 ≤ i.toInt) (h1 : i.toInt < 60) : Rel (X_sheets' X (va_up (X_sheets X) x.toNatClampNeg (S_cells' ((X_sheets X) x.toNatClampNeg) (upd (S_cells ((X_sheets X) x.toNatClampNeg)) i.toNatClampNeg v)))) (M_cells' M (upd (M_cells M) (((60 : Int32) * x) + i).toNatClampNeg v)) := by
  refine h.shs (S := M_sorts M) (L := M_sheetLong M) (fun j hj => ?_)
  have hs := h.2.2.2 j hj
  have hlt : i.toNatClampNeg < 60 := by rw [Int32.toNatClampNeg]; omega
  rw [ci_eq hx h0 (by omega)]
  by_cases e : j = x.toNatClampNeg
  · rw [e, up_s]
    rw [e] at hs
    refine ⟨?_, hs.2⟩
    rcases hs.1 with ⟨a, b⟩ | ⟨a, b, c, d, f⟩
    · exact Or.inl ⟨a, b⟩
    · refine Or.inr ⟨a, b, c, d, fun k hk => ?_⟩
      show upd (S_cells (X_sheets X x.toNatClampNeg)) i.toNatClampNeg v k = upd (M_cells M) (60 * x.toNatClampNeg + i.toNatClampNeg) v (60 * x.toNatClampNeg + k)
      by_cases e2 : k = i.toNatClampNeg
      · rw [e2, pk_us, pk_us]
      · rw [pk_un e2, pk_un (by omega)]; exact f k hk
  · rw [up_n _ _ e]
    refine ⟨?_, hs.2⟩
    rcases hs.1 with ⟨a, b⟩ | ⟨a, b, c, d, f⟩
    · exact Or.inl ⟨a, b⟩
    · refine Or.inr ⟨a, b, c, d, fun k hk => ?_⟩
      show S_cells (X_sheets X j) k = upd (M_cells M) (60 * x.toNatClampNeg + i.toNatClampNeg) v (60 * j + k)
      rw [pk_un (by omega)]; exact f k hk
theorem rel_put {X : XS} {M : MS} (hR : Rel X M) (x1 x2 x3 : Int32) : (f_X3_put X x1 x2 x3).1 = (f_X4_put M x1 x2 x3).1 ∧ Rel (f_X3_put X x1 x2 x3).2 (f_X4_put M x1 x2 x3).2 := by
  have hR' := hR.fault (0 : Int32)
  unfold f_X3_put f_X4_put
  rw [sh_ite]
  by_cases c1 : f_X4_isSheet x1 = 0
  · simp only [if_pos c1]; exact ⟨trivial, hR'⟩
  · simp only [if_neg c1]
    have hj := sh_cl (sh_in c1)
    have hs := hR.2.2.2 _ hj
    rcases hs.1 with ⟨a, b⟩ | ⟨a, b, c, d, e⟩
    · rw [if_pos a, if_pos b]
      exact ⟨rfl, hR'.fault _⟩
    · have n9 : ¬ M_sorts M x1.toNatClampNeg = (-9 : Int32) := by rw [b]; exact lane_n9 c
      rw [if_neg (by rw [a]; decide), if_neg n9, sp1 d hs.2.2]
      by_cases c4 : f_X4_within x2 (0 : Int32) ((M_sheetLong M x1.toNatClampNeg) - (1 : Int32)) = 0
      · rw [if_pos c4, if_pos c4]
        exact ⟨rfl, hR'.fault _⟩
      · rw [if_neg c4, if_neg c4]
        have hL := hs.2.2
        have h4 := wi_r c4
        have e2 : ((M_sheetLong M x1.toNatClampNeg) - (1 : Int32)).toInt = (M_sheetLong M x1.toNatClampNeg).toInt - 1 := by
          rw [fb_subI] <;> rw [show (1 : Int32).toInt = 1 from rfl] <;> omega
        rw [e2, show (0 : Int32).toInt = 0 from rfl] at h4
        have key := hR'.cel (f_X1_cut ((X_sheets X) x1.toNatClampNeg) x3) (sh_in c1) h4.1 (show x2.toInt < 60 by omega)
        unfold f_X1_cut at key ⊢
        rw [← b] at key ⊢
        by_cases k0 : M_sorts M x1.toNatClampNeg = (0 : Int32)
        · rw [if_pos k0] at key ⊢
          rw [if_pos k0]
          exact ⟨rfl, key⟩
        · rw [if_neg k0] at key ⊢
          rw [if_neg k0]
          by_cases k1 : M_sorts M x1.toNatClampNeg = (1 : Int32)
          · rw [if_pos k1] at key ⊢
            rw [if_pos k1]
            exact ⟨rfl, key⟩
          · rw [if_neg k1] at key ⊢
            rw [if_neg k1]
            exact ⟨rfl, key⟩
