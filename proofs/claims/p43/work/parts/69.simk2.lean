/-! cells of one's own behind the hand's; a loop that makes cells; new rows -/
theorem lw_Ri {k : Nat → ClassId} {a tr o fa ba : Nat → Nat} {x : Nat} {S U G T : HS} {n nf L : Nat} {R : va_W} {Y : va_W} {i : Nat} : (LW k a tr o fa ba x S U G T n nf L (R ++ Y))[64 + nf + n + (R.length + i)]? = Y[i]? := by
  rw [lw_R, List.getElem?_append_right (by omega), show R.length + i - R.length = i by omega]
theorem lw_Riset {k : Nat → ClassId} {a tr o fa ba : Nat → Nat} {x : Nat} {S U G T : HS} {n nf L : Nat} {R : va_W} {Y : va_W} {i : Nat} {y : Nat × va_E} : (LW k a tr o fa ba x S U G T n nf L (R ++ Y)).set (64 + nf + n + (R.length + i)) y = LW k a tr o fa ba x S U G T n nf L (R ++ Y.set i y) := by
  rw [lw_Rset, List.set_append_right _ _ (by omega), show R.length + i - R.length = i by omega]
theorem lw_lnD {k : Nat → ClassId} {a tr o fa ba : Nat → Nat} {x : Nat} {S U G T : HS} {n nf L : Nat} {R : va_W} {A : Nat → Prop} {f : Nat → Int32} (hD : va_D A (LW k a tr o fa ba x S U G T n nf L R)) : va_D A (LW k a tr o fa ba x S U G (sf T 6 f) n nf L R) := vaD_same hD lw_same
/-- an array of references under a pointwise equal content -/
theorem out_cong {D : va_G} {cl : List vw_C} {ws : va_W} {H : Heap} {i a n : Nat} {cA : ClassId} {f g : Nat → Option Nat} (hP : va_P D cl ws H) (h : ws[i]? = some (a, outA cA n f)) (e : ∀ j, j < n → f j = g j) : va_P D cl (ws.set i (a, outA cA n g)) H := by
  have hl := (List.getElem?_eq_some_iff.mp h).1
  intro k q hk
  by_cases hki : k = i
  · subst hki
    rw [List.getElem?_set_self hl] at hk
    cases hk
    have h1 := hP k _ h
    show H[a]? = some (vp_cell cA (n, .inr (.inr (.inr (.inr g)))))
    have h2 : H[a]? = some (vp_cell cA (n, .inr (.inr (.inr (.inr f))))) := h1
    rw [h2]
    congr 1
    rw [vp_cell_q, vp_cell_q]
    exact congrArg (fun z : Fin n → Value => ({ cls := cA, slots := Array.ofFn z, vm := .none } : Cell)) (funext fun j => congrArg va_rf (e j.val j.isLt))
  · rw [List.getElem?_set_ne (Ne.symm hki)] at hk
    exact hP k q hk
section WFG
variable {p : Program} {l : Launch} {e : Env} {R : Room} {s : State} {m : MethodId} {args : Array Value} {below : List Frame} {meth : Method} {c : Code} {H : Heap} {locs : List Loc} {Q : State → Prop}
variable {pc nL : Nat} {D : va_G} {A : Nat → Prop} {H0 : Heap} {st : List Value}
/-- a loop that makes cells: the world is any that I says of -/
theorem w_forG {N : Nat} (I : Nat → va_W → Prop) (lv : Nat → List (Nat × Value)) (cl sl : Nat → Nat) (exit : ∀ ls H locs w, I N w → lv_has ls nL (lv N) → va_P D vwCl w H → va_D A w → va_S A H0 H locs → W p l e R s m args below meth c H locs (cl N) (sl N) Q (F0 m pc ls st))
    (step : ∀ i, i < N → (∀ ls H locs w, I (i + 1) w → lv_has ls nL (lv (i + 1)) → va_P D vwCl w H → va_D A w → va_S A H0 H locs → W p l e R s m args below meth c H locs (cl (i + 1)) (sl (i + 1)) Q (F0 m pc ls st)) → ∀ ls H locs w, I i w → lv_has ls nL (lv i) → va_P D vwCl w H → va_D A w → va_S A H0 H locs → W p l e R s m args below meth c H locs (cl i) (sl i) Q (F0 m pc ls st)) (i0 : Nat) (hi0 : i0 ≤ N) {ls : Array Slot} {w : va_W} (hI : I i0 w) (h : lv_has ls nL (lv i0)) (hP : va_P D vwCl w H) (hD : va_D A w) (hS : va_S A H0 H locs) : W p l e R s m args below meth c H locs (cl i0) (sl i0) Q (F0 m pc ls st) := by
  have key : ∀ d i, i + d = N → ∀ ls H locs w, I i w → lv_has ls nL (lv i) → va_P D vwCl w H → va_D A w → va_S A H0 H locs → W p l e R s m args below meth c H locs (cl i) (sl i) Q (F0 m pc ls st) := by
    intro d
    induction d with
    | zero =>
      intro i hi ls H locs w hI h hP hD hS
      have e : i = N := by omega
      subst e
      exact exit ls H locs w hI h hP hD hS
    | succ d ih =>
      intro i hi ls H locs w hI h hP hD hS
      exact step i (by omega) (ih (i + 1) (by omega)) ls H locs w hI h hP hD hS
  exact key (N - i0) i0 (by omega) ls H locs w hI h hP hD hS
end WFG
theorem perm_bg (A B C R : va_W) (x y r : Nat × va_E) : ((A ++ (x :: (B ++ (C ++ R)))) ++ [r, y]).Perm ((A ++ (y :: (B ++ (C ++ (r :: R))))) ++ [x]) := by
  rw [List.append_assoc, List.append_assoc]
  refine List.Perm.append_left A ?_
  have h1 : ((B ++ (C ++ R)) ++ [r, y]).Perm (y :: (B ++ (C ++ (r :: R)))) := by
    rw [show (B ++ (C ++ R)) ++ [r, y] = ((B ++ (C ++ R)) ++ [r]) ++ [y] by simp only [List.append_assoc, List.cons_append, List.nil_append]]
    refine (List.perm_append_singleton y _).trans (List.Perm.cons y ?_)
    rw [List.append_assoc, List.append_assoc]
    refine List.Perm.append_left B (List.Perm.append_left C ?_)
    exact List.perm_append_singleton r R
  have h2 : ((B ++ (C ++ (r :: R))) ++ [x]).Perm (x :: (B ++ (C ++ (r :: R)))) := List.perm_append_singleton x _
  exact ((h1.cons x).trans (List.Perm.swap y x _)).trans (h2.symm.cons y)
abbrev lwO (k : Nat → ClassId) (o : Nat → Nat) (G T : HS) : List Value := [.int (T 0 0), .int (G 0 2), .ref (o 1), .ref (o 2), .ref (o 3), .ref (o 4)]
/-- a new bag's row, and the new row of rows -/
theorem lw_bgEq {k : Nat → ClassId} {a tr o fa ba : Nat → Nat} {x : Nat} {S U G T : HS} {n nf L : Nat} {R : va_W} {q1 q2 : Nat} {G2 T2 : HS} (hbg : ∀ b, b < n → bgR G2 T2 b = bgR G T b) (hfl : flR G2 = flR G) (h3 : G2 3 = G 3) (h6 : T2 6 = T 6) (h00 : T2 0 0 = T 0 0) (h02 : G2 0 2 = G 0 2) : LW k a tr (oLn o 3 q2) fa (oLn ba n q1) x S U G2 T2 (n + 1) nf L R = (hw k a S ++ ((x, .inr (4, [.ref (a 0), .ref (tr 0)])) :: (hw k tr U ++ [(o 0, .inr (5, [.int (T 0 0), .int (G 0 2), .ref (o 1), .ref (o 2), .ref q2, .ref (o 4)])), (o 1, .inl (k 0, 4, .inl (G 3))), (o 2, outA (k 2) nf (rfA fa))]))) ++ (((q2, outA (k 2) (n + 1) (rfA (oLn ba n q1))) : Nat × va_E) :: (((o 4, .inl (k 0, L, .inl (T 6))) :: rowsW (k 0) fa 2 (flR G) nf) ++ (rowsW (k 0) ba 8 (bgR G T) n ++ (((q1, .inl (k 0, 8, .inl (bgR G2 T2 n))) : Nat × va_E) :: R)))) := by
  rw [lw_pre, rows_succ, rows_cong (ad := oLn ba n q1) (ad2 := ba) (g := bgR G2 T2) (g2 := bgR G T) (fun i hi => ⟨if_neg (Nat.ne_of_lt hi), hbg i hi⟩), hfl, show oLn ba n q1 n = q1 from if_pos rfl]
  have el : lwP k a tr (oLn o 3 q2) x S U G2 T2 (n + 1) nf L (rfA fa) (rfA (oLn ba n q1)) = (hw k a S ++ ((x, .inr (4, [.ref (a 0), .ref (tr 0)])) :: (hw k tr U ++ [(o 0, .inr (5, [.int (T2 0 0), .int (G2 0 2), .ref (o 1), .ref (o 2), .ref q2, .ref (o 4)])), (o 1, .inl (k 0, 4, .inl (G2 3))), (o 2, outA (k 2) nf (rfA fa)), (q2, outA (k 2) (n + 1) (rfA (oLn ba n q1))), (o 4, .inl (k 0, L, .inl (T2 6)))]))) := rfl
  rw [el, h3, h6, h00, h02]
  simp only [List.append_assoc, List.cons_append, List.nil_append]
theorem lw_newBg {k : Nat → ClassId} {a tr o fa ba : Nat → Nat} {x : Nat} {S U G T : HS} {n nf L : Nat} {R : va_W} {D : va_G} {A : Nat → Prop} {H : Heap} {q1 q2 : Nat} {G2 T2 : HS}
    (hP : va_P D vwCl ((LW k a tr o fa ba x S U G T n nf L (R ++ [(q1, .inl (k 0, 8, .inl (bgR G2 T2 n))), (q2, outA (k 2) (n + 1) (rfA (oLn ba n q1)))])).set 59 (o 0, .inr (5, ([.int (T 0 0), .int (G 0 2), .ref (o 1), .ref (o 2), .ref (o 3), .ref (o 4)] : List Value).set 4 (.ref q2)))) H) (hD : va_D A ((LW k a tr o fa ba x S U G T n nf L (R ++ [(q1, .inl (k 0, 8, .inl (bgR G2 T2 n))), (q2, outA (k 2) (n + 1) (rfA (oLn ba n q1)))])).set 59 (o 0, .inr (5, ([.int (T 0 0), .int (G 0 2), .ref (o 1), .ref (o 2), .ref (o 3), .ref (o 4)] : List Value).set 4 (.ref q2)))))
    (hbg : ∀ b, b < n → bgR G2 T2 b = bgR G T b) (hfl : flR G2 = flR G) (h3 : G2 3 = G 3) (h6 : T2 6 = T 6) (h00 : T2 0 0 = T 0 0) (h02 : G2 0 2 = G 0 2) :
    va_P D vwCl (LW k a tr (oLn o 3 q2) fa (oLn ba n q1) x S U G2 T2 (n + 1) nf L R) H ∧ va_D A (LW k a tr (oLn o 3 q2) fa (oLn ba n q1) x S U G2 T2 (n + 1) nf L R) := by
  have hw9 : (LW k a tr o fa ba x S U G T n nf L (R ++ [(q1, .inl (k 0, 8, .inl (bgR G2 T2 n))), (q2, outA (k 2) (n + 1) (rfA (oLn ba n q1)))])).set 59 (o 0, .inr (5, ([.int (T 0 0), .int (G 0 2), .ref (o 1), .ref (o 2), .ref (o 3), .ref (o 4)] : List Value).set 4 (.ref q2))) = ((hw k a S ++ ((x, .inr (4, [.ref (a 0), .ref (tr 0)])) :: (hw k tr U ++ [(o 0, .inr (5, [.int (T 0 0), .int (G 0 2), .ref (o 1), .ref (o 2), .ref q2, .ref (o 4)])), (o 1, .inl (k 0, 4, .inl (G 3))), (o 2, outA (k 2) nf (rfA fa))]))) ++ ((o 3, outA (k 2) n (rfA ba)) :: (((o 4, .inl (k 0, L, .inl (T 6))) :: rowsW (k 0) fa 2 (flR G) nf) ++ (rowsW (k 0) ba 8 (bgR G T) n ++ R)))) ++ [((q1, .inl (k 0, 8, .inl (bgR G2 T2 n))) : Nat × va_E), (q2, outA (k 2) (n + 1) (rfA (oLn ba n q1)))] := by
    rw [← lw_more]
    rfl
  rw [hw9] at hP hD
  have hp := perm_bg (hw k a S ++ ((x, .inr (4, [.ref (a 0), .ref (tr 0)])) :: (hw k tr U ++ [(o 0, .inr (5, [.int (T 0 0), .int (G 0 2), .ref (o 1), .ref (o 2), .ref q2, .ref (o 4)])), (o 1, .inl (k 0, 4, .inl (G 3))), (o 2, outA (k 2) nf (rfA fa))]))) ((o 4, .inl (k 0, L, .inl (T 6))) :: rowsW (k 0) fa 2 (flR G) nf) (rowsW (k 0) ba 8 (bgR G T) n) R (o 3, outA (k 2) n (rfA ba)) (q2, outA (k 2) (n + 1) (rfA (oLn ba n q1))) (q1, .inl (k 0, 8, .inl (bgR G2 T2 n)))
  rw [lw_bgEq hbg hfl h3 h6 h00 h02]
  exact ⟨vaP_drop hP hp, vaD_drop hD hp⟩
/-- a new flight's row -/
theorem lw_flEq {k : Nat → ClassId} {a tr o fa ba : Nat → Nat} {x : Nat} {S U G T : HS} {n nf L : Nat} {R : va_W} {q1 q2 : Nat} {G2 : HS} (hfg : ∀ f, f < nf → flR G2 f = flR G f) (hbg : bgR G2 T = bgR G T) (h3 : G2 3 = G 3) (h02 : G2 0 2 = G 0 2) : LW k a tr (oLn o 2 q2) (oLn fa nf q1) ba x S U G2 T n (nf + 1) L R = (hw k a S ++ ((x, .inr (4, [.ref (a 0), .ref (tr 0)])) :: (hw k tr U ++ [(o 0, .inr (5, [.int (T 0 0), .int (G 0 2), .ref (o 1), .ref q2, .ref (o 3), .ref (o 4)])), (o 1, .inl (k 0, 4, .inl (G 3)))]))) ++ (((q2, outA (k 2) (nf + 1) (rfA (oLn fa nf q1))) : Nat × va_E) :: (([(o 3, outA (k 2) n (rfA ba)), (o 4, .inl (k 0, L, .inl (T 6)))] ++ rowsW (k 0) fa 2 (flR G) nf) ++ (([] : va_W) ++ (((q1, .inl (k 0, 2, .inl (flR G2 nf))) : Nat × va_E) :: (rowsW (k 0) ba 8 (bgR G T) n ++ R))))) := by
  rw [lw_pre, rows_succ, rows_cong (ad := oLn fa nf q1) (ad2 := fa) (g := flR G2) (g2 := flR G) (fun i hi => ⟨if_neg (Nat.ne_of_lt hi), hfg i hi⟩), hbg, show oLn fa nf q1 nf = q1 from if_pos rfl]
  have el : lwP k a tr (oLn o 2 q2) x S U G2 T n (nf + 1) L (rfA (oLn fa nf q1)) (rfA ba) = (hw k a S ++ ((x, .inr (4, [.ref (a 0), .ref (tr 0)])) :: (hw k tr U ++ [(o 0, .inr (5, [.int (T 0 0), .int (G2 0 2), .ref (o 1), .ref q2, .ref (o 3), .ref (o 4)])), (o 1, .inl (k 0, 4, .inl (G2 3))), (q2, outA (k 2) (nf + 1) (rfA (oLn fa nf q1))), (o 3, outA (k 2) n (rfA ba)), (o 4, .inl (k 0, L, .inl (T 6)))]))) := rfl
  rw [el, h3, h02]
  simp only [List.append_assoc, List.cons_append, List.nil_append]
theorem lw_newFl {k : Nat → ClassId} {a tr o fa ba : Nat → Nat} {x : Nat} {S U G T : HS} {n nf L : Nat} {R : va_W} {D : va_G} {A : Nat → Prop} {H : Heap} {q1 q2 : Nat} {G2 : HS}
    (hP : va_P D vwCl ((LW k a tr o fa ba x S U G T n nf L (R ++ [(q1, .inl (k 0, 2, .inl (flR G2 nf))), (q2, outA (k 2) (nf + 1) (rfA (oLn fa nf q1)))])).set 59 (o 0, .inr (5, ([.int (T 0 0), .int (G 0 2), .ref (o 1), .ref (o 2), .ref (o 3), .ref (o 4)] : List Value).set 3 (.ref q2)))) H) (hD : va_D A ((LW k a tr o fa ba x S U G T n nf L (R ++ [(q1, .inl (k 0, 2, .inl (flR G2 nf))), (q2, outA (k 2) (nf + 1) (rfA (oLn fa nf q1)))])).set 59 (o 0, .inr (5, ([.int (T 0 0), .int (G 0 2), .ref (o 1), .ref (o 2), .ref (o 3), .ref (o 4)] : List Value).set 3 (.ref q2)))))
    (hfg : ∀ f, f < nf → flR G2 f = flR G f) (hbg : bgR G2 T = bgR G T) (h3 : G2 3 = G 3) (h02 : G2 0 2 = G 0 2) :
    va_P D vwCl (LW k a tr (oLn o 2 q2) (oLn fa nf q1) ba x S U G2 T n (nf + 1) L R) H ∧ va_D A (LW k a tr (oLn o 2 q2) (oLn fa nf q1) ba x S U G2 T n (nf + 1) L R) := by
  have hw9 : (LW k a tr o fa ba x S U G T n nf L (R ++ [(q1, .inl (k 0, 2, .inl (flR G2 nf))), (q2, outA (k 2) (nf + 1) (rfA (oLn fa nf q1)))])).set 59 (o 0, .inr (5, ([.int (T 0 0), .int (G 0 2), .ref (o 1), .ref (o 2), .ref (o 3), .ref (o 4)] : List Value).set 3 (.ref q2))) = ((hw k a S ++ ((x, .inr (4, [.ref (a 0), .ref (tr 0)])) :: (hw k tr U ++ [(o 0, .inr (5, [.int (T 0 0), .int (G 0 2), .ref (o 1), .ref q2, .ref (o 3), .ref (o 4)])), (o 1, .inl (k 0, 4, .inl (G 3)))]))) ++ ((o 2, outA (k 2) nf (rfA fa)) :: (([(o 3, outA (k 2) n (rfA ba)), (o 4, .inl (k 0, L, .inl (T 6)))] ++ rowsW (k 0) fa 2 (flR G) nf) ++ (([] : va_W) ++ (rowsW (k 0) ba 8 (bgR G T) n ++ R))))) ++ [((q1, .inl (k 0, 2, .inl (flR G2 nf))) : Nat × va_E), (q2, outA (k 2) (nf + 1) (rfA (oLn fa nf q1)))] := by
    rw [← lw_more]
    rfl
  rw [hw9] at hP hD
  have hp := perm_bg (hw k a S ++ ((x, .inr (4, [.ref (a 0), .ref (tr 0)])) :: (hw k tr U ++ [(o 0, .inr (5, [.int (T 0 0), .int (G 0 2), .ref (o 1), .ref q2, .ref (o 3), .ref (o 4)])), (o 1, .inl (k 0, 4, .inl (G 3)))]))) ([(o 3, outA (k 2) n (rfA ba)), (o 4, .inl (k 0, L, .inl (T 6)))] ++ rowsW (k 0) fa 2 (flR G) nf) [] (rowsW (k 0) ba 8 (bgR G T) n ++ R) (o 2, outA (k 2) nf (rfA fa)) (q2, outA (k 2) (nf + 1) (rfA (oLn fa nf q1))) (q1, .inl (k 0, 2, .inl (flR G2 nf)))
  rw [lw_flEq hfg hbg h3 h02]
  exact ⟨vaP_drop hP hp, vaD_drop hD hp⟩
