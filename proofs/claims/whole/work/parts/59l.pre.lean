/-! what is handed out -/
def wj (N S j : Nat) : Nat := if S + j < N then S + j else S + j - N
def jf (N S i : Nat) : Nat := if S ≤ i then i - S else i + N - S
def cj (s : Int32) (N S : Nat) : Nat → Nat
  | 0 => 0
  | j + 1 => cj s N S j + (if f_X4_isOf s (nI (wj N S j)) = 0 then 0 else 1)
def sv (a h c : Nat) : Nat := a / h + (if a % h ≤ c then 0 else 1)
def psum (a h c : Nat) : Nat := c * (a / h) + (if c ≤ a % h then c else a % h)
theorem ps_0 (q m t c : Nat) : (t + (if c ≤ m then c else m)) + (q + (if m ≤ c then 0 else 1)) = (t + q) + (if c + 1 ≤ m then c + 1 else m) := by
  by_cases d : m ≤ c
  · rw [if_pos d, if_neg (show ¬ c + 1 ≤ m by omega)]
    by_cases e : c ≤ m
    · rw [if_pos e]; omega
    · rw [if_neg e]; omega
  · rw [if_neg d, if_pos (show c + 1 ≤ m by omega), if_pos (show c ≤ m by omega)]; omega
theorem ps_1 (a h c : Nat) : psum a h c + sv a h c = psum a h (c + 1) := by
  unfold psum sv
  rw [Nat.succ_mul]
  exact ps_0 _ _ _ _
theorem ps_2 (A x : Int) (t u w : Nat) (h : t + u = w) : A + (t : Int) - x + (x + (u : Int)) = A + (w : Int) := by omega
theorem wj_mod {N S j : Nat} (hS : S < N) (hj : j < N) : (S + j) % N = wj N S j := by
  unfold wj
  by_cases c : S + j < N
  · rw [if_pos c, Nat.mod_eq_of_lt c]
  · rw [if_neg c, Nat.mod_eq_sub_mod (by omega), Nat.mod_eq_of_lt (by omega)]
theorem wj_lt {N S j : Nat} (hS : S < N) (hj : j < N) : wj N S j < N := by
  unfold wj
  split <;> omega
theorem jf_wj {N S j : Nat} (hS : S < N) (hj : j < N) : jf N S (wj N S j) = j := by
  unfold wj jf
  split <;> split <;> omega
theorem wj_jf {N S i : Nat} (hS : S < N) (hi : i < N) : wj N S (jf N S i) = i := by
  unfold jf wj
  split <;> split <;> omega
theorem jf_lt {N S i : Nat} (hS : S < N) (hi : i < N) : jf N S i < N := by
  unfold jf
  split <;> omega
theorem cj_le (s : Int32) (N S : Nat) : ∀ j : Nat, cj s N S j ≤ j := by
  intro j
  induction j with
  | zero => exact Nat.le_refl _
  | succ j ih =>
    show cj s N S j + (if f_X4_isOf s (nI (wj N S j)) = 0 then 0 else 1) ≤ j + 1
    split <;> omega
theorem im1 : (-1 : Int32).toInt = -1 := by decide
theorem ho_a {lo : Int32} {m c : Nat} (h : lo.toInt = (m : Int) - (c : Nat)) (c2 : lo.toInt ≤ 0) : m ≤ c := by omega
theorem ho_b {lo : Int32} {m c : Nat} (h : lo.toInt = (m : Int) - (c : Nat)) (c2 : ¬ lo.toInt ≤ 0) : ¬ m ≤ c := by omega
theorem ho_L {T : TN} {N S a h : Nat} {s : Int32} (h6 : N ≤ 6) (eN : T_count T = nI N) (hS : S < N) (ha : a ≤ 300) (hh : 0 < h) (hh2 : h ≤ 6) (es : T_inside T = s) (v0 : Nat → Int32) (hv0 : ∀ i, i < N → 0 ≤ (v0 i).toInt ∧ (v0 i).toInt ≤ 300) :
    ∀ (k j : Nat) (lo : Int32) (v : Nat → Int32), j ≤ N → lo.toInt = ((a % h : Nat) : Int) - (cj s N S j : Nat) → N - j < k → (∀ i, v i = if i < N ∧ jf N S i < j ∧ ¬ f_X4_isOf s (nI i) = 0 then v0 i + nI (sv a h (cj s N S (jf N S i))) else v0 i) → sumP v N = sumP v0 N + ((psum a h (cj s N S j) : Nat) : Int) →
    ∃ v' : Nat → Int32, fL_X2_handOut_28 T (nI a) (nI S) (nI h) k lo (nI j) v = T_parts' T v' ∧ (∀ i, v' i = if i < N ∧ ¬ f_X4_isOf s (nI i) = 0 then v0 i + nI (sv a h (cj s N S (jf N S i))) else v0 i) ∧ sumP v' N = sumP v0 N + ((psum a h (cj s N S N) : Nat) : Int) := by
  intro k
  induction k with
  | zero => intro j lo v _ _ h; exact absurd h (Nat.not_lt_zero _)
  | succ k ih =>
    intro j lo v hj hlo hk hv hs
    have hc := cj_le s N S j
    have hm : a % h < h := Nat.mod_lt _ hh
    have hd : a / h ≤ a := Nat.div_le_self _ _
    rw [fL_X2_handOut_28, eN]
    by_cases c : nI N ≤ nI j
    · have c' := (nI_leI (by omega) (by omega)).mp c
      have ej : j = N := by omega
      rw [if_pos c]
      refine ⟨v, rfl, fun i => ?_, by rw [← ej] at hs ⊢; exact hs⟩
      rw [hv i]
      by_cases d : i < N ∧ ¬ f_X4_isOf s (nI i) = 0
      · rw [if_pos d, if_pos ⟨d.1, by rw [ej]; exact jf_lt hS d.1, d.2⟩]
      · rw [if_neg d, if_neg (fun q => d ⟨q.1, q.2.2⟩)]
    · have c' : j < N := by
        rcases Nat.lt_or_ge j N with h | h
        · exact h
        · exact absurd ((nI_leI (by omega) (by omega)).mpr h) c
      have hw := wj_lt hS c'
      rw [if_neg c, nI_1, nI_add, pk_rem (by omega) (by omega) (by omega), wj_mod hS c', nI_clamp (by omega)]
      unfold f_X2_isIn
      rw [mem_eq, show T_inside (T_parts' T v) = s from es]
      have e1 : cj s N S (j + 1) = cj s N S j + (if f_X4_isOf s (nI (wj N S j)) = 0 then 0 else 1) := rfl
      by_cases c1 : f_X4_isOf s (nI (wj N S j)) = 0
      · rw [if_pos c1]
        rw [if_pos c1, Nat.add_zero] at e1
        refine ih (j + 1) lo v (by omega) (by rw [e1]; exact hlo) (by omega) (fun i => ?_) (by rw [e1]; exact hs)
        rw [hv i]
        by_cases d : i < N ∧ jf N S i < j ∧ ¬ f_X4_isOf s (nI i) = 0
        · rw [if_pos d, if_pos ⟨d.1, by omega, d.2.2⟩]
        · rw [if_neg d, if_neg]
          intro q
          apply d
          refine ⟨q.1, ?_, q.2.2⟩
          rcases Nat.lt_or_ge (jf N S i) j with g | g
          · exact g
          · exfalso
            have g2 : jf N S i = j := by omega
            have g3 := wj_jf hS q.1
            rw [g2] at g3
            rw [g3] at c1
            exact q.2.2 c1
      · rw [if_neg c1]
        rw [if_neg c1] at e1
        have ev : v (wj N S j) = v0 (wj N S j) := by
          rw [hv, if_neg]
          intro q
          rw [jf_wj hS c'] at q
          omega
        have hb := hv0 _ hw
        have el : (lo + (-1 : Int32)).toInt = ((a % h : Nat) : Int) - (cj s N S (j + 1) : Nat) := by
          rw [e1, fb_addI] <;> rw [im1] <;> omega
        have esv : sv a h (cj s N S j) ≤ 301 := by unfold sv; split <;> omega
        have key : ∀ x : Int32, x = nI (sv a h (cj s N S j)) → ∃ v' : Nat → Int32, fL_X2_handOut_28 T (nI a) (nI S) (nI h) k (lo + (-1 : Int32)) (nI (j + 1)) (upd v (wj N S j) (v (wj N S j) + x)) = T_parts' T v' ∧ (∀ i, v' i = if i < N ∧ ¬ f_X4_isOf s (nI i) = 0 then v0 i + nI (sv a h (cj s N S (jf N S i))) else v0 i) ∧ sumP v' N = sumP v0 N + ((psum a h (cj s N S N) : Nat) : Int) := by
          intro x hx
          refine ih (j + 1) (lo + (-1 : Int32)) _ (by omega) el (by omega) (fun i => ?_) ?_
          · by_cases e : i = wj N S j
            · rw [e, pk_us, jf_wj hS c', if_pos ⟨hw, by omega, c1⟩, ev, hx]
            · rw [pk_un e, hv i]
              by_cases d : i < N ∧ jf N S i < j ∧ ¬ f_X4_isOf s (nI i) = 0
              · rw [if_pos d, if_pos ⟨d.1, by omega, d.2.2⟩]
              · rw [if_neg d, if_neg]
                intro q
                apply d
                refine ⟨q.1, ?_, q.2.2⟩
                rcases Nat.lt_or_ge (jf N S i) j with g | g
                · exact g
                · exfalso
                  have g2 : jf N S i = j := by omega
                  have g3 := wj_jf hS q.1
                  rw [g2] at g3
                  exact e g3.symm
          · rw [sumP_upd _ _ _ _ hw, hs, ev, hx]
            have e9 : (v0 (wj N S j) + nI (sv a h (cj s N S j))).toInt = (v0 (wj N S j)).toInt + (sv a h (cj s N S j) : Nat) := by
              rw [fb_addI] <;> rw [nI_toInt (by omega)] <;> omega
            rw [e9, e1]
            exact ps_2 _ _ _ _ _ (ps_1 a h _)
        clear ih
        by_cases c2 : lo ≤ 0
        · rw [if_pos c2]
          rw [fa_le, i0] at c2
          refine key _ ?_
          rw [pk_div (by omega) hh (by omega)]
          unfold sv
          rw [if_pos (ho_a hlo c2)]
          exact Int32.add_zero _
        · rw [if_neg c2]
          rw [fa_le, i0] at c2
          refine key _ ?_
          rw [pk_div (by omega) hh (by omega)]
          unfold sv
          rw [if_neg (ho_b hlo c2), nI_1]
theorem t_cj : ∀ (N : Fin 7) (s : Fin 64) (S : Fin 6), s.val < 2 ^ N.val → S.val < N.val → nI (cj (nI s.val) N.val S.val N.val) = f_X4_size (nI s.val) := by decide +kernel
theorem so_cj {s n : Int32} {N S : Nat} (h : so s n) (eN : n = nI N) (h6 : N ≤ 6) (hS : S < N) : nI (cj s N S N) = f_X4_size s := by
  obtain ⟨a, b, hb, hab, rfl, e⟩ := so_nI h
  have e2 : b = N := by
    rw [e] at eN
    exact (nI_eq (by omega) (by omega)).mp eN
  subst e2
  exact t_cj ⟨b, by omega⟩ ⟨a, pw6 hb hab⟩ ⟨S, by omega⟩ hab hS
/-- what is handed out, from S on, to the heads of s -/
theorem ho_eq {T : TN} {N S a : Nat} {s : Int32} (h6 : N ≤ 6) (eN : T_count T = nI N) (hS : S < N) (ha : a ≤ 300) (es : T_inside T = s) (hs : so s (nI N)) (hz : ¬ s = 0) (hv0 : ∀ i, i < N → 0 ≤ (T_parts T i).toInt ∧ (T_parts T i).toInt ≤ 300) :
    ∃ v' : Nat → Int32, f_X2_handOut T (nI a) (nI S) = T_parts' T v' ∧ (∀ i, v' i = if i < N ∧ ¬ f_X4_isOf s (nI i) = 0 then T_parts T i + nI (sv a (cj s N S N) (cj s N S (jf N S i))) else T_parts T i) ∧ sumP v' N = sumP (T_parts T) N + a := by
  have e1 := so_cj hs rfl h6 hS
  have e2 := so_szp hs hz
  have hc := cj_le s N S N
  rw [← e1, nI_toInt (by omega)] at e2
  have hh : 0 < cj s N S N := by omega
  have hm : a % cj s N S N < cj s N S N := Nat.mod_lt _ hh
  unfold f_X2_handOut f_X2_heads
  rw [es, so_bs hs, ← e1, if_neg (nz_I (by omega) (by omega)), pk_rem (by omega) hh (by omega)]
  obtain ⟨v', q1, q2, q3⟩ := ho_L (T := T) (N := N) (S := S) (a := a) (h := cj s N S N) (s := s) h6 eN hS ha hh (by omega) es (T_parts T) hv0 7 0 (nI (a % cj s N S N)) (T_parts T) (by omega) (by rw [nI_toInt (by omega)]; show _ = _ - ((0 : Nat) : Int); omega) (by omega) (fun i => by rw [if_neg (by omega)]) (by rw [show cj s N S 0 = 0 from rfl, show psum a (cj s N S N) 0 = 0 by unfold psum; rw [Nat.zero_mul, if_pos (Nat.zero_le _)]]; omega)
  refine ⟨v', q1, q2, ?_⟩
  rw [q3]
  have q4 := Nat.div_add_mod a (cj s N S N)
  unfold psum
  rw [if_neg (by omega), q4]
