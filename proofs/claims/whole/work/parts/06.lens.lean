theorem kq_setA {w y : va_W} (n : Nat) (is : List Nat) (hw : w.length = n) (hy : y.length = n) (his : is = List.range n) (hn : va_nd is = true) : kq_set w is y = y := by
  apply List.ext_getElem?
  intro i
  by_cases hi : i < n
  · refine kq_set_in is y w hn (by rw [his, List.length_range, hy]) (fun k hk => by rw [his, List.mem_range] at hk; omega) i i ?_
    rw [his, List.getElem?_range hi]
  · rw [kq_set_out is y w i (by rw [his, List.mem_range]; exact hi), List.getElem?_eq_none (by omega), List.getElem?_eq_none (by omega)]
theorem wX_subN {ad : Nat → Nat} {cI cO : ClassId} {x : XS} : [2, 3, 4, 5].map (fun i => (wX ad cI cO x)[i]?) = (wT (ad 2) (ad 3) (ad 4) (ad 5) cI (X_now x)).map some := rfl
theorem wX_sameN {ad : Nat → Nat} {cI cO : ClassId} {x : XS} : kq_set (wX ad cI cO x) [2, 3, 4, 5] (wT (ad 2) (ad 3) (ad 4) (ad 5) cI (X_now x)) = wX ad cI cO x := rfl
theorem wX_setN {ad : Nat → Nat} {cI cO : ClassId} {x : XS} (t : TN) : kq_set (wX ad cI cO x) [2, 3, 4, 5] (wT (ad 2) (ad 3) (ad 4) (ad 5) cI t) = wX ad cI cO (X_now' x t) := rfl
theorem wX_subH {ad : Nat → Nat} {cI cO : ClassId} {x : XS} : [6, 7, 8, 9].map (fun i => (wX ad cI cO x)[i]?) = (wT (ad 6) (ad 7) (ad 8) (ad 9) cI (X_then x)).map some := rfl
theorem wX_sameH {ad : Nat → Nat} {cI cO : ClassId} {x : XS} : kq_set (wX ad cI cO x) [6, 7, 8, 9] (wT (ad 6) (ad 7) (ad 8) (ad 9) cI (X_then x)) = wX ad cI cO x := rfl
theorem wX_setH {ad : Nat → Nat} {cI cO : ClassId} {x : XS} (t : TN) : kq_set (wX ad cI cO x) [6, 7, 8, 9] (wT (ad 6) (ad 7) (ad 8) (ad 9) cI t) = wX ad cI cO (X_then' x t) := rfl
theorem wX_subR {ad : Nat → Nat} {cI cO : ClassId} {x : XS} : [10, 11, 12, 13].map (fun i => (wX ad cI cO x)[i]?) = (wR (ad 10) (ad 11) (ad 12) (ad 13) cI (X_said x)).map some := rfl
theorem wX_sameR {ad : Nat → Nat} {cI cO : ClassId} {x : XS} : kq_set (wX ad cI cO x) [10, 11, 12, 13] (wR (ad 10) (ad 11) (ad 12) (ad 13) cI (X_said x)) = wX ad cI cO x := rfl
theorem wX_setR {ad : Nat → Nat} {cI cO : ClassId} {x : XS} (t : RD) : kq_set (wX ad cI cO x) [10, 11, 12, 13] (wR (ad 10) (ad 11) (ad 12) (ad 13) cI t) = wX ad cI cO (X_said' x t) := rfl
theorem wX_subRN {ad : Nat → Nat} {cI cO : ClassId} {x : XS} : [10, 11, 12, 13, 2, 3, 4, 5].map (fun i => (wX ad cI cO x)[i]?) = (wR (ad 10) (ad 11) (ad 12) (ad 13) cI (X_said x) ++ wT (ad 2) (ad 3) (ad 4) (ad 5) cI (X_now x)).map some := rfl
theorem wX_sameRN {ad : Nat → Nat} {cI cO : ClassId} {x : XS} : kq_set (wX ad cI cO x) [10, 11, 12, 13, 2, 3, 4, 5] (wR (ad 10) (ad 11) (ad 12) (ad 13) cI (X_said x) ++ wT (ad 2) (ad 3) (ad 4) (ad 5) cI (X_now x)) = wX ad cI cO x := rfl
theorem wX_subHN {ad : Nat → Nat} {cI cO : ClassId} {x : XS} : [6, 7, 8, 9, 2, 3, 4, 5].map (fun i => (wX ad cI cO x)[i]?) = (wT (ad 6) (ad 7) (ad 8) (ad 9) cI (X_then x) ++ wT (ad 2) (ad 3) (ad 4) (ad 5) cI (X_now x)).map some := rfl
theorem wX_setHN {ad : Nat → Nat} {cI cO : ClassId} {x : XS} (t : TN) : kq_set (wX ad cI cO x) [6, 7, 8, 9, 2, 3, 4, 5] (wT (ad 6) (ad 7) (ad 8) (ad 9) cI t ++ wT (ad 2) (ad 3) (ad 4) (ad 5) cI (X_now x)) = wX ad cI cO (X_then' x t) := rfl
theorem wX_subA {ad : Nat → Nat} {cI cO : ClassId} {x : XS} : [0, 1, 2, 3, 4, 5, 6, 7, 8, 9, 10, 11, 12, 13, 14, 15, 16, 17, 18, 19, 20, 21].map (fun i => (wX ad cI cO x)[i]?) = (wX ad cI cO x).map some := rfl
theorem wX_setA {ad : Nat → Nat} {cI cO : ClassId} {x : XS} (y : XS) : kq_set (wX ad cI cO x) [0, 1, 2, 3, 4, 5, 6, 7, 8, 9, 10, 11, 12, 13, 14, 15, 16, 17, 18, 19, 20, 21] (wX ad cI cO y) = wX ad cI cO y := kq_setA 22 _ rfl rfl (by decide) (by decide)
theorem wX_fst {ad : Nat → Nat} {cI cO : ClassId} {x : XS} (y : XS) : (wX ad cI cO y).map (fun q => q.1) = (wX ad cI cO x).map (fun q => q.1) := rfl
theorem wM_subA {ad : Nat → Nat} {cI : ClassId} {x : MS} : [0, 1, 2, 3, 4, 5, 6, 7, 8, 9, 10, 11, 12].map (fun i => (wM ad cI x)[i]?) = (wM ad cI x).map some := rfl
theorem wM_setA {ad : Nat → Nat} {cI : ClassId} {x : MS} (y : MS) : kq_set (wM ad cI x) [0, 1, 2, 3, 4, 5, 6, 7, 8, 9, 10, 11, 12] (wM ad cI y) = wM ad cI y := kq_setA 13 _ rfl rfl (by decide) (by decide)
theorem wM_fst {ad : Nat → Nat} {cI : ClassId} {x : MS} (y : MS) : (wM ad cI y).map (fun q => q.1) = (wM ad cI x).map (fun q => q.1) := rfl
