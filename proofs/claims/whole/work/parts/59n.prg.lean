/-! one who leaves, on both sides -/
theorem md_s {g h : Nat} (hh : 0 < h) : (g + 1) / h = (if g % h + 1 = h then g / h + 1 else g / h) ∧ (g + 1) % h = (if g % h + 1 = h then 0 else g % h + 1) := by
  have e := Nat.div_add_mod g h
  have hm := Nat.mod_lt g hh
  by_cases d : g % h + 1 = h
  · rw [if_pos d, if_pos d]
    refine (Nat.div_mod_unique hh).mpr ⟨?_, hh⟩
    rw [Nat.mul_add, Nat.mul_one]; omega
  · rw [if_neg d, if_neg d]
    refine (Nat.div_mod_unique hh).mpr ⟨?_, by omega⟩
    omega
theorem sv_s {g h c : Nat} (hc : c < h) : sv (g + 1) h c = sv g h c + (if c = g % h then 1 else 0) := by
  have hh : 0 < h := by omega
  obtain ⟨e1, e2⟩ := md_s (g := g) hh
  have hm := Nat.mod_lt g hh
  unfold sv
  rw [e1, e2]
  by_cases d : g % h + 1 = h
  · rw [if_pos d, if_pos d, if_pos (Nat.zero_le _)]
    by_cases e : c = g % h
    · rw [if_pos (show g % h ≤ c by omega), if_pos e]
    · rw [if_neg (show ¬ g % h ≤ c by omega), if_neg e]
  · rw [if_neg d, if_neg d]
    by_cases e : c = g % h
    · rw [if_neg (show ¬ g % h + 1 ≤ c by omega), if_pos (show g % h ≤ c by omega), if_pos e]
    · rw [if_neg e]
      by_cases f : g % h + 1 ≤ c
      · rw [if_pos f, if_pos (show g % h ≤ c by omega)]
      · rw [if_neg f, if_neg (show ¬ g % h ≤ c by omega)]
theorem jf0 (N i : Nat) : jf N 0 i = i := by
  unfold jf
  rw [if_pos (Nat.zero_le _)]; rfl
theorem cj0s {s : Int32} {N i : Nat} (hi : i < N) : cj s N 0 (i + 1) = cj s N 0 i + (if f_X4_isOf s (nI i) = 0 then 0 else 1) := by
  have e : wj N 0 i = i := by unfold wj; rw [if_pos (by omega)]; omega
  show cj s N 0 i + (if f_X4_isOf s (nI (wj N 0 i)) = 0 then 0 else 1) = _
  rw [e]
theorem cj_mono (s : Int32) (N S i : Nat) : ∀ j : Nat, i ≤ j → cj s N S i ≤ cj s N S j := by
  intro j
  induction j with
  | zero => intro h; rw [show i = 0 by omega]; exact Nat.le_refl _
  | succ j ih =>
    intro h
    by_cases e : i = j + 1
    · rw [e]; exact Nat.le_refl _
    · have h1 := ih (by omega)
      show _ ≤ cj s N S j + (if f_X4_isOf s (nI (wj N S j)) = 0 then 0 else 1)
      omega
theorem cj_mem {s : Int32} {N i : Nat} (hi : i < N) (hm : ¬ f_X4_isOf s (nI i) = 0) : cj s N 0 (i + 1) = cj s N 0 i + 1 ∧ ∀ j, i < j → cj s N 0 i < cj s N 0 j := by
  have e := cj0s (s := s) hi
  rw [if_neg hm] at e
  refine ⟨e, fun j hj => ?_⟩
  have h := cj_mono s N 0 (i + 1) j (by omega)
  omega
theorem nI_m1 {L : Nat} (h : L + 1 < 2 ^ 31) : nI (L + 1) + (-1 : Int32) = nI L := by
  rw [fa_eq]
  rw [fb_addI] <;> rw [im1] <;> rw [nI_toInt h]
  · rw [nI_toInt (by omega)]; omega
  · omega
  · omega
theorem jf_nx {N q r : Nat} (hq : q < N) (hr : r < N) (hne : q ≠ r) : jf N (if q + 1 = N then 0 else q + 1) r + 1 = jf N q r := by
  unfold jf
  repeat' split
  all_goals omega
theorem dl_L {M : MS} {N r h : Nat} {s : Int32} (x1 : Int32) (h6 : N ≤ 6) (eN : M_people M = nI N) (hr : r < N) (hrm : ¬ f_X4_isOf s (nI r) = 0) (eh : h = cj s N 0 N) (v0 : Nat → Int32) : ∀ (k L g q : Nat) (v : Nat → Int32), q < N → L ≤ 300 → L * 6 + jf N q r < k → ((cj s N 0 q = g % h) ∨ (cj s N 0 q = h ∧ g % h = 0)) → (∀ i, i < N → v i = if f_X4_isOf s (nI i) = 0 then v0 i else v0 i + nI (sv g h (cj s N 0 i))) →
    ∃ Q : Nat → Int32, fL_X4_doLeave_48 M x1 k (nI L) (nI q) s v = M_parts' (M_isIn' M s) Q ∧ ∀ i, i < N → Q i = if f_X4_isOf s (nI i) = 0 then v0 i else v0 i + nI (sv (g + L) h (cj s N 0 i)) := by
  have hh : 0 < h := by
    have := (cj_mem hr hrm).2 N hr
    omega
  intro k
  induction k with
  | zero => intro L g q v _ _ h; exact absurd h (Nat.not_lt_zero _)
  | succ k ih =>
    intro L g q v hq hL hk hi hv
    have hm := Nat.mod_lt g hh
    rw [fL_X4_doLeave_48]
    by_cases c : nI L ≤ 0
    · have c' : L = 0 := by rw [fa_le, i0, nI_toInt (by omega)] at c; omega
      rw [if_pos c]
      exact ⟨v, rfl, fun i hi => by rw [c', Nat.add_zero]; exact hv i hi⟩
    · have c' : 0 < L := by rw [fa_le, i0, nI_toInt (by omega)] at c; omega
      obtain ⟨L, rfl⟩ : ∃ j, L = j + 1 := ⟨L - 1, by omega⟩
      rw [if_neg c, eN, nI_1, nI_m1 (by omega), nI_clamp (by omega)]
      obtain ⟨nx, hnx⟩ : ∃ nx, nx = if q + 1 = N then 0 else q + 1 := ⟨_, rfl⟩
      have hnl : nx < N := by rw [hnx]; split <;> omega
      have hjl : jf N nx r < 6 := by have := jf_lt hnl hr; omega
      have e0 := cj0s (s := s) hq
      by_cases c2 : f_X4_isOf s (nI q) = 0
      · rw [if_pos c2]
        rw [if_pos c2, Nat.add_zero] at e0
        have hne : q ≠ r := fun e => hrm (by rw [← e]; exact c2)
        have hd := jf_nx hq hr hne
        rw [← hnx] at hd
        have H := ih (L + 1) g nx v hnl hL (by omega) (by
          rw [hnx]
          by_cases e : q + 1 = N
          · rw [if_pos e]
            rw [e, ← eh] at e0
            refine Or.inl ?_
            show 0 = g % h
            omega
          · rw [if_neg e, e0]; exact hi) hv
        by_cases c3 : nI (q + 1) = nI N
        · rw [hnx, if_pos ((nI_eq (by omega) (by omega)).mp c3), nI_0] at H
          rw [if_pos c3]; exact H
        · rw [hnx, if_neg (fun e => c3 (by rw [e]))] at H
          rw [if_neg c3]; exact H
      · rw [if_neg c2]
        rw [if_neg c2] at e0
        have hlt := (cj_mem hq c2).2 N hq
        have eg : cj s N 0 q = g % h := by omega
        have emd := (md_s (g := g) hh).2
        have hv' : ∀ i, i < N → upd v q (v q + (1 : Int32)) i = if f_X4_isOf s (nI i) = 0 then v0 i else v0 i + nI (sv (g + 1) h (cj s N 0 i)) := by
          intro i hi2
          by_cases e : i = q
          · rw [e, pk_us, hv q hq, if_neg c2, if_neg c2, sv_s (by omega), if_pos eg, ← nI_1, Int32.add_assoc]
          · rw [pk_un e, hv i hi2]
            by_cases d : f_X4_isOf s (nI i) = 0
            · rw [if_pos d, if_pos d]
            · have g1 := (cj_mem hi2 d).2
              have g2 := (cj_mem hq c2).2
              have g3 : ¬ cj s N 0 i = g % h := by
                rw [← eg]
                rcases Nat.lt_or_gt_of_ne e with f | f
                · have := g1 q f; omega
                · have := g2 i f; omega
              have g4 := g1 N hi2
              rw [if_neg d, if_neg d, sv_s (by omega), if_neg g3, Nat.add_zero]
        have H := ih L (g + 1) nx (upd v q (v q + (1 : Int32))) hnl (by omega) (by omega) (by
          rw [hnx]
          by_cases e : q + 1 = N
          · rw [if_pos e]
            rw [e, ← eh] at e0
            rw [if_pos (by omega)] at emd
            exact Or.inl emd.symm
          · rw [if_neg e]
            have hle := cj_mono s N 0 (q + 1) N (by omega)
            by_cases f : g % h + 1 = h
            · rw [if_pos f] at emd
              exact Or.inr ⟨by omega, emd⟩
            · rw [if_neg f] at emd
              exact Or.inl (by omega)) hv'
        rw [show g + 1 + L = g + (L + 1) by omega] at H
        by_cases c3 : nI (q + 1) = nI N
        · rw [hnx, if_pos ((nI_eq (by omega) (by omega)).mp c3), nI_0] at H
          rw [if_pos c3]; exact H
        · rw [hnx, if_neg (fun e => c3 (by rw [e]))] at H
          rw [if_neg c3]; exact H
theorem rlv_1 {X : XS} {M : MS} (h : Rel X M) {P Q : Nat → Int32} {s t : Int32} (hs : so s (M_people M)) (hp : ∀ i : Nat, (i : Int) < (M_people M).toInt → Q i = P i ∧ 0 ≤ (Q i).toInt) (ht : 0 ≤ t.toInt) (hb : t.toInt + sumP Q (M_people M).toInt.toNat ≤ 283) : Rel (X_now' X (T_tin' (T_inside' (T_parts' (X_now X) P) s) t)) (M_tin' (M_parts' (M_isIn' M s) Q) t) := by
  refine ⟨⟨⟨h.1.1.1, rfl, rfl⟩, hs, fun i hi => ?_, ht, hb⟩, h.2.1, h.2.2.1, h.2.2.2⟩
  have h1 := h.1.2.2.1 i hi
  have h2 := hp i hi
  exact ⟨h1.1, h2.1, h1.2.2.1, h1.2.2.2.1, h2.2, h1.2.2.2.2.2⟩
theorem rlv_2 {X : XS} {M : MS} (h : Rel X M) {P0 P Q : Nat → Int32} {s : Int32} (hs : so s (M_people M)) (hp : ∀ i : Nat, (i : Int) < (M_people M).toInt → Q i = P i ∧ 0 ≤ (Q i).toInt) (hb : (M_tin M).toInt + sumP Q (M_people M).toInt.toNat ≤ 283) : Rel (X_now' X (T_parts' (T_inside' (T_parts' (X_now X) P0) s) P)) (M_parts' (M_isIn' M s) Q) := by
  refine ⟨⟨⟨h.1.1.1, rfl, h.1.1.2.2⟩, hs, fun i hi => ?_, h.1.2.2.2.1, hb⟩, h.2.1, h.2.2.1, h.2.2.2⟩
  have h1 := h.1.2.2.1 i hi
  have h2 := hp i hi
  exact ⟨h1.1, h2.1, h1.2.2.1, h1.2.2.2.1, h2.2, h1.2.2.2.2.2⟩
theorem bc_0 : f_J6_bitCount_0f7a4 (0 : Int32) = 0 := by decide +kernel
theorem act_leave {X : XS} {M : MS} (hR : Rel X M) {p : Int32} (hp : 0 ≤ p.toInt ∧ p.toInt < (M_people M).toInt) : (f_X2_goOut (X_now X) p).1 = M_parts M p.toNatClampNeg ∧ 0 ≤ (f_X2_goOut (X_now X) p).1.toInt ∧ Rel (X_now' X (f_X2_goOut (X_now X) p).2) (f_X4_doLeave M p) := by
  obtain ⟨N, h6, eN, hN⟩ := hR.N
  have hs' := (so_bits hR.so hp).1
  have hex := so_hex hR.so hp
  obtain ⟨q, q1, rfl, q2⟩ := nn_I hp.1
  have hq : q < N := by omega
  have hbq := hR.pq q (by omega)
  obtain ⟨a, a1, ea, a2⟩ := nn_I hbq.2.1
  have eI : T_inside (X_now X) = M_isIn M := hR.1.1.2.1.symm
  have eT : T_count (X_now X) = nI N := by rw [← hR.1.1.1]; exact eN
  have ht := hR.tin
  have hbs := hR.1.2.2.2
  rw [show (M_people M).toInt.toNat = N by omega] at hbs
  unfold f_X2_goOut f_X4_doLeave
  rw [eI, nI_clamp (by omega), ← hbq.1, ea]
  generalize hg : (M_isIn M) &&& (((1 : Int32) <<< (nI q &&& 31)) ^^^ (-1 : Int32)) = s at hs' hex ⊢
  have hupd : ∀ i : Nat, i < N → upd (M_parts M) q (0 : Int32) i = upd (T_parts (X_now X)) q (0 : Int32) i ∧ 0 ≤ (upd (M_parts M) q (0 : Int32) i).toInt ∧ (upd (M_parts M) q (0 : Int32) i).toInt ≤ 300 := by
    intro i hi
    by_cases e : i = q
    · rw [e, pk_us, pk_us]; exact ⟨rfl, by decide, by decide⟩
    · rw [pk_un e, pk_un e]; exact hR.pq i (by omega)
  have hsu := sumP_upd (M_parts M) q (0 : Int32) N hq
  rw [i0, ea, nI_toInt a1] at hsu
  refine ⟨rfl, by show 0 ≤ (nI a).toInt; rw [nI_toInt a1]; exact Int.natCast_nonneg _, ?_⟩
  show Rel (X_now' X (f_X2_handOut (T_inside' (T_parts' (X_now X) (upd (T_parts (X_now X)) q (0 : Int32))) s) (nI a) (0 : Int32))) _
  have ha3 : a ≤ 283 := by
    have := (hR.bnd (i := q) (by omega)).2
    omega
  by_cases c : s = 0
  · rw [if_pos c]
    unfold f_X2_handOut
    have e0 : f_X2_heads (T_inside' (T_parts' (X_now X) (upd (T_parts (X_now X)) q (0 : Int32))) s) = 0 := by
      show f_J6_bitCount_0f7a4 s = 0
      rw [c]; exact bc_0
    rw [if_pos e0]
    have et : T_tin (T_inside' (T_parts' (X_now X) (upd (T_parts (X_now X)) q (0 : Int32))) s) = M_tin M := hR.1.1.2.2.symm
    rw [et]
    have e2 : (M_tin M + nI a).toInt = (M_tin M).toInt + a := by
      rw [fb_addI] <;> rw [nI_toInt a1] <;> omega
    refine rlv_1 hR hs' (fun i hi => ?_) (by rw [e2]; omega) ?_
    · have := hupd i (by omega)
      exact ⟨this.1, this.2.1⟩
    · rw [show (M_people M).toInt.toNat = N by omega, hsu, e2]
      omega
  · rw [if_neg c]
    have hs2 : so s (nI N) := by rw [← eN]; exact hs'
    obtain ⟨v', r1, r2, r3⟩ := ho_eq (T := T_inside' (T_parts' (X_now X) (upd (T_parts (X_now X)) q (0 : Int32))) s) (N := N) (S := 0) (a := a) (s := s) h6 eT (by omega) (by omega) rfl hs2 c (fun i hi => by
      have := hupd i hi
      rw [this.1] at this
      exact this.2)
    rw [nI_0] at r1
    rw [r1]
    obtain ⟨r0, z1, z2⟩ := hex c
    obtain ⟨r, z3, rfl, z4⟩ := nn_I z1.1
    obtain ⟨Q, d1, d2⟩ := dl_L (M := M) (N := N) (r := r) (s := s) (nI q) h6 eN (by omega) z2 rfl (upd (M_parts M) q (0 : Int32)) (a * 6 + 7) a 0 0 (upd (M_parts M) q (0 : Int32)) (by omega) (by omega) (by rw [jf0]; omega) (Or.inl (by rw [Nat.zero_mod]; rfl)) (fun i hi => by
      have e9 : sv 0 (cj s N 0 N) (cj s N 0 i) = 0 := by
        unfold sv
        rw [Nat.zero_mod, Nat.zero_div, if_pos (Nat.zero_le _)]
      rw [e9, nI_0, Int32.add_zero]
      split <;> rfl)
    rw [nI_0] at d1
    rw [nI_toInt a1, Int.toNat_natCast, d1]
    have hQ : ∀ i, i < N → Q i = v' i ∧ 0 ≤ (Q i).toInt := by
      intro i hi
      have hu := hupd i hi
      have r2i : v' i = if i < N ∧ ¬ f_X4_isOf s (nI i) = 0 then upd (T_parts (X_now X)) q (0 : Int32) i + nI (sv a (cj s N 0 N) (cj s N 0 (jf N 0 i))) else upd (T_parts (X_now X)) q (0 : Int32) i := r2 i
      rw [d2 i hi, r2i, jf0, Nat.zero_add, ← hu.1]
      have hd : a / cj s N 0 N ≤ a := Nat.div_le_self _ _
      have hq9 : sv a (cj s N 0 N) (cj s N 0 i) ≤ 301 := by unfold sv; split <;> omega
      by_cases d : f_X4_isOf s (nI i) = 0
      · rw [if_pos d, if_neg (fun q => q.2 d)]
        exact ⟨rfl, hu.2.1⟩
      · rw [if_neg d, if_pos ⟨hi, d⟩]
        refine ⟨rfl, ?_⟩
        rw [fb_addI] <;> rw [nI_toInt (by omega)] <;> omega
    refine rlv_2 hR hs' (fun i hi => hQ i (by omega)) ?_
    have r3' : sumP v' N = sumP (upd (T_parts (X_now X)) q (0 : Int32)) N + a := r3
    rw [show (M_people M).toInt.toNat = N by omega, sumP_c Q v' N (fun i hi => (hQ i hi).1), r3', ← sumP_c (upd (M_parts M) q (0 : Int32)) (upd (T_parts (X_now X)) q (0 : Int32)) N (fun i hi => (hupd i hi).1), hsu]
    omega
theorem rel_leave {X : XS} {M : MS} (hR : Rel X M) (x1 : Int32) : (f_X3_leave X x1).1 = (f_X4_leave M x1).1 ∧ Rel (f_X3_leave X x1).2 (f_X4_leave M x1).2 := by
  unfold f_X3_leave f_X4_leave f_X3_act
  rw [rel_has hR, acts_1]
  unfold f_X2_isIn
  rw [is01, ← hR.1.1.2.1]
  by_cases c1 : f_X4_isPerson M x1 = 0
  · simp only [if_pos c1]; exact ⟨trivial, hR⟩
  · simp only [if_neg c1]
    by_cases c2 : f_X4_isOf (M_isIn M) x1 = 0
    · simp only [if_pos c2]; exact ⟨trivial, hR⟩
    · simp only [if_neg c2]
      obtain ⟨h1, -, h3⟩ := act_leave hR (mi_r c1)
      exact ⟨h1, h3⟩
