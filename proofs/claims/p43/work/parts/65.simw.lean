/-! the hand's own hall (Sim): its cells, behind the class's. G, T: the state in the words of the reference; a bag's row: flight, size, smudge, where, at, read, missed, file; a flight's: chute, gone -/
def bgR (G T : HS) (b : Nat) : Nat → Int32 := fun j => match j with
  | 0 => G 4 b
  | 1 => G 5 b
  | 2 => G 6 b
  | 3 => T 1 b
  | 4 => T 2 b
  | 5 => T 3 b
  | 6 => T 4 b
  | _ => G 7 b
def flR (G : HS) (f : Nat) : Nat → Int32 := fun j => match j with
  | 0 => G 1 f
  | _ => G 2 f
def rowsW (c : ClassId) (ad : Nat → Nat) (w : Nat) (g : Nat → Nat → Int32) (n : Nat) : va_W := (List.range n).map (fun i => (ad i, .inl (c, w, .inl (g i))))
abbrev rfA (ad : Nat → Nat) : Nat → Option Nat := fun i => some (ad i)
abbrev outA (c : ClassId) (n : Nat) (f : Nat → Option Nat) : va_E := .inl (c, n, .inr (.inr (.inr (.inr f))))
def sw (k : Nat → ClassId) (o fa ba : Nat → Nat) (G T : HS) (n nf L : Nat) (R : va_W) : va_W :=
  (o 0, .inr (5, [.int (T 0 0), .int (G 0 2), .ref (o 1), .ref (o 2), .ref (o 3), .ref (o 4)])) :: (o 1, .inl (k 0, 4, .inl (G 3))) :: (o 2, outA (k 2) nf (rfA fa)) :: (o 3, outA (k 2) n (rfA ba)) :: (o 4, .inl (k 0, L, .inl (T 6))) :: (rowsW (k 0) fa 2 (flR G) nf ++ (rowsW (k 0) ba 8 (bgR G T) n ++ R))
def LW (k : Nat → ClassId) (a tr o fa ba : Nat → Nat) (x : Nat) (S U G T : HS) (n nf L : Nat) (R : va_W) : va_W := hw k a S ++ ((x, .inr (4, [.ref (a 0), .ref (tr 0)])) :: (hw k tr U ++ sw k o fa ba G T n nf L R))
def lwP (k : Nat → ClassId) (a tr o : Nat → Nat) (x : Nat) (S U G T : HS) (n nf L : Nat) (f2 f3 : Nat → Option Nat) : va_W := hw k a S ++ ((x, .inr (4, [.ref (a 0), .ref (tr 0)])) :: (hw k tr U ++ [(o 0, .inr (5, [.int (T 0 0), .int (G 0 2), .ref (o 1), .ref (o 2), .ref (o 3), .ref (o 4)])), (o 1, .inl (k 0, 4, .inl (G 3))), (o 2, outA (k 2) nf f2), (o 3, outA (k 2) n f3), (o 4, .inl (k 0, L, .inl (T 6)))]))
theorem lw_pre {k : Nat → ClassId} {a tr o fa ba : Nat → Nat} {x : Nat} {S U G T : HS} {n nf L : Nat} {R : va_W} : LW k a tr o fa ba x S U G T n nf L R = lwP k a tr o x S U G T n nf L (rfA fa) (rfA ba) ++ (rowsW (k 0) fa 2 (flR G) nf ++ (rowsW (k 0) ba 8 (bgR G T) n ++ R)) := rfl
theorem lwP_len {k : Nat → ClassId} {a tr o : Nat → Nat} {x : Nat} {S U G T : HS} {n nf L : Nat} {f2 f3 : Nat → Option Nat} : (lwP k a tr o x S U G T n nf L f2 f3).length = 64 := rfl
theorem lw_app {k : Nat → ClassId} {a tr o fa ba : Nat → Nat} {x : Nat} {S U G T : HS} {n nf L : Nat} {R : va_W} : LW k a tr o fa ba x S U G T n nf L R = LW k a tr o fa ba x S U G T n nf L [] ++ R := by
  rw [lw_pre, lw_pre]
  simp only [List.append_assoc, List.nil_append]
theorem lw_more {k : Nat → ClassId} {a tr o fa ba : Nat → Nat} {x : Nat} {S U G T : HS} {n nf L : Nat} {R : va_W} {Z : va_W} : LW k a tr o fa ba x S U G T n nf L R ++ Z = LW k a tr o fa ba x S U G T n nf L (R ++ Z) := by
  rw [lw_pre, lw_pre]
  simp only [List.append_assoc]
theorem lw_59 {k : Nat → ClassId} {a tr o fa ba : Nat → Nat} {x : Nat} {S U G T : HS} {n nf L : Nat} {R : va_W} : (LW k a tr o fa ba x S U G T n nf L R)[59]? = some (o 0, .inr (5, [.int (T 0 0), .int (G 0 2), .ref (o 1), .ref (o 2), .ref (o 3), .ref (o 4)])) := rfl
theorem lw_60 {k : Nat → ClassId} {a tr o fa ba : Nat → Nat} {x : Nat} {S U G T : HS} {n nf L : Nat} {R : va_W} : (LW k a tr o fa ba x S U G T n nf L R)[60]? = some (o 1, .inl (k 0, 4, .inl (G 3))) := rfl
theorem lw_61 {k : Nat → ClassId} {a tr o fa ba : Nat → Nat} {x : Nat} {S U G T : HS} {n nf L : Nat} {R : va_W} : (LW k a tr o fa ba x S U G T n nf L R)[61]? = some (o 2, outA (k 2) nf (rfA fa)) := rfl
theorem lw_62 {k : Nat → ClassId} {a tr o fa ba : Nat → Nat} {x : Nat} {S U G T : HS} {n nf L : Nat} {R : va_W} : (LW k a tr o fa ba x S U G T n nf L R)[62]? = some (o 3, outA (k 2) n (rfA ba)) := rfl
theorem lw_63 {k : Nat → ClassId} {a tr o fa ba : Nat → Nat} {x : Nat} {S U G T : HS} {n nf L : Nat} {R : va_W} : (LW k a tr o fa ba x S U G T n nf L R)[63]? = some (o 4, .inl (k 0, L, .inl (T 6))) := rfl
theorem lw_29 {k : Nat → ClassId} {a tr o fa ba : Nat → Nat} {x : Nat} {S U G T : HS} {n nf L : Nat} {R : va_W} : (LW k a tr o fa ba x S U G T n nf L R)[29]? = some (x, .inr (4, [.ref (a 0), .ref (tr 0)])) := rfl
theorem rows_len {c : ClassId} {ad : Nat → Nat} {w : Nat} {g : Nat → Nat → Int32} {n : Nat} : (rowsW c ad w g n).length = n := by
  unfold rowsW
  rw [List.length_map, List.length_range]
theorem rows_at {c : ClassId} {ad : Nat → Nat} {w : Nat} {g : Nat → Nat → Int32} {n i : Nat} (h : i < n) : (rowsW c ad w g n)[i]? = some (ad i, .inl (c, w, .inl (g i))) := by
  unfold rowsW
  rw [List.getElem?_map, List.getElem?_range h]
  rfl
theorem rows_cong {c : ClassId} {ad ad2 : Nat → Nat} {w : Nat} {g g2 : Nat → Nat → Int32} {n : Nat} (h : ∀ i, i < n → ad i = ad2 i ∧ g i = g2 i) : rowsW c ad w g n = rowsW c ad2 w g2 n := by
  unfold rowsW
  refine List.map_congr_left (fun i hi => ?_)
  obtain ⟨e1, e2⟩ := h i (List.mem_range.mp hi)
  rw [e1, e2]
theorem rows_succ {c : ClassId} {ad : Nat → Nat} {w : Nat} {g : Nat → Nat → Int32} {n : Nat} : rowsW c ad w g (n + 1) = rowsW c ad w g n ++ [(ad n, .inl (c, w, .inl (g n)))] := by
  unfold rowsW
  rw [List.range_succ, List.map_append]
  rfl
theorem rows_set {c : ClassId} {ad : Nat → Nat} {w : Nat} {g g2 : Nat → Nat → Int32} {n i : Nat} {v : Nat → Int32} (h : i < n) (hg : g2 i = v) (ho : ∀ j, j < n → j ≠ i → g2 j = g j) : (rowsW c ad w g n).set i (ad i, .inl (c, w, .inl v)) = rowsW c ad w g2 n := by
  apply List.ext_getElem?
  intro j
  by_cases e : j = i
  · subst e
    rw [List.getElem?_set_self (by rw [rows_len]; exact h), rows_at h, hg]
  · rw [List.getElem?_set_ne (Ne.symm e)]
    rcases Nat.lt_or_ge j n with q | q
    · rw [rows_at q, rows_at q, ho j q e]
    · rw [List.getElem?_eq_none (by rw [rows_len]; exact q), List.getElem?_eq_none (by rw [rows_len]; exact q)]
theorem lw_f {k : Nat → ClassId} {a tr o fa ba : Nat → Nat} {x : Nat} {S U G T : HS} {n nf L : Nat} {R : va_W} {f : Nat} (h : f < nf) : (LW k a tr o fa ba x S U G T n nf L R)[64 + f]? = some (fa f, .inl (k 0, 2, .inl (flR G f))) := by
  rw [lw_pre, List.getElem?_append_right (by rw [lwP_len]; omega), lwP_len, show 64 + f - 64 = f by omega, List.getElem?_append_left (by rw [rows_len]; exact h), rows_at h]
theorem lw_b {k : Nat → ClassId} {a tr o fa ba : Nat → Nat} {x : Nat} {S U G T : HS} {n nf L : Nat} {R : va_W} {b : Nat} (h : b < n) : (LW k a tr o fa ba x S U G T n nf L R)[64 + nf + b]? = some (ba b, .inl (k 0, 8, .inl (bgR G T b))) := by
  rw [lw_pre, List.getElem?_append_right (by rw [lwP_len]; omega), lwP_len, show 64 + nf + b - 64 = nf + b by omega, List.getElem?_append_right (by rw [rows_len]; omega), rows_len, show nf + b - nf = b by omega, List.getElem?_append_left (by rw [rows_len]; exact h), rows_at h]
theorem lw_R {k : Nat → ClassId} {a tr o fa ba : Nat → Nat} {x : Nat} {S U G T : HS} {n nf L : Nat} {R : va_W} {i : Nat} : (LW k a tr o fa ba x S U G T n nf L R)[64 + nf + n + i]? = R[i]? := by
  rw [lw_pre, List.getElem?_append_right (by rw [lwP_len]; omega), lwP_len, show 64 + nf + n + i - 64 = nf + (n + i) by omega, List.getElem?_append_right (by rw [rows_len]; omega), rows_len, show nf + (n + i) - nf = n + i by omega, List.getElem?_append_right (by rw [rows_len]; omega), rows_len, show n + i - n = i by omega]
theorem lw_Rset {k : Nat → ClassId} {a tr o fa ba : Nat → Nat} {x : Nat} {S U G T : HS} {n nf L : Nat} {R : va_W} {i : Nat} {y : Nat × va_E} : (LW k a tr o fa ba x S U G T n nf L R).set (64 + nf + n + i) y = LW k a tr o fa ba x S U G T n nf L (R.set i y) := by
  rw [lw_pre, lw_pre, List.set_append_right _ _ (by rw [lwP_len]; omega), lwP_len, show 64 + nf + n + i - 64 = nf + (n + i) by omega, List.set_append_right _ _ (by rw [rows_len]; omega), rows_len, show nf + (n + i) - nf = n + i by omega, List.set_append_right _ _ (by rw [rows_len]; omega), rows_len, show n + i - n = i by omega]
theorem lw_fset {k : Nat → ClassId} {a tr o fa ba : Nat → Nat} {x : Nat} {S U G T : HS} {n nf L : Nat} {R : va_W} {G2 : HS} {f : Nat} {v : Nat → Int32} (h : f < nf) (hg : flR G2 f = v) (ho : ∀ j, j < nf → j ≠ f → flR G2 j = flR G j) (hp : lwP k a tr o x S U G2 T n nf L (rfA fa) (rfA ba) = lwP k a tr o x S U G T n nf L (rfA fa) (rfA ba)) (hb : bgR G2 T = bgR G T) : (LW k a tr o fa ba x S U G T n nf L R).set (64 + f) (fa f, .inl (k 0, 2, .inl v)) = LW k a tr o fa ba x S U G2 T n nf L R := by
  rw [lw_pre, lw_pre, List.set_append_right _ _ (by rw [lwP_len]; omega), lwP_len, show 64 + f - 64 = f by omega, List.set_append_left _ _ (by rw [rows_len]; exact h), rows_set h hg ho, hp, hb]
theorem lw_bset {k : Nat → ClassId} {a tr o fa ba : Nat → Nat} {x : Nat} {S U G T : HS} {n nf L : Nat} {R : va_W} {G2 T2 : HS} {b : Nat} {v : Nat → Int32} (h : b < n) (hg : bgR G2 T2 b = v) (ho : ∀ j, j < n → j ≠ b → bgR G2 T2 j = bgR G T j) (hp : lwP k a tr o x S U G2 T2 n nf L (rfA fa) (rfA ba) = lwP k a tr o x S U G T n nf L (rfA fa) (rfA ba)) (hf : flR G2 = flR G) : (LW k a tr o fa ba x S U G T n nf L R).set (64 + nf + b) (ba b, .inl (k 0, 8, .inl v)) = LW k a tr o fa ba x S U G2 T2 n nf L R := by
  rw [lw_pre, lw_pre, List.set_append_right _ _ (by rw [lwP_len]; omega), lwP_len, show 64 + nf + b - 64 = nf + b by omega, List.set_append_right _ _ (by rw [rows_len]; omega), rows_len, show nf + b - nf = b by omega, List.set_append_left _ _ (by rw [rows_len]; exact h), rows_set h hg ho, hp, hf]
/-- the same cells in other words -/
theorem lw_cong {k : Nat → ClassId} {a tr o fa ba : Nat → Nat} {x : Nat} {S U G T : HS} {n nf L : Nat} {R : va_W} {G2 T2 : HS} (hb : ∀ b, b < n → bgR G2 T2 b = bgR G T b) (hf : ∀ f, f < nf → flR G2 f = flR G f) (hp : lwP k a tr o x S U G2 T2 n nf L (rfA fa) (rfA ba) = lwP k a tr o x S U G T n nf L (rfA fa) (rfA ba)) : LW k a tr o fa ba x S U G2 T2 n nf L R = LW k a tr o fa ba x S U G T n nf L R := by
  rw [lw_pre, lw_pre, hp, rows_cong (fun i hi => ⟨rfl, hb i hi⟩), rows_cong (g := flR G2) (g2 := flR G) (fun i hi => ⟨rfl, hf i hi⟩)]
theorem lw_same {k : Nat → ClassId} {a tr o fa ba : Nat → Nat} {x : Nat} {S U G T : HS} {n nf L : Nat} {R : va_W} {S2 U2 G2 T2 : HS} : (LW k a tr o fa ba x S2 U2 G2 T2 n nf L R).map Prod.fst = (LW k a tr o fa ba x S U G T n nf L R).map Prod.fst := by
  rw [lw_pre, lw_pre, List.map_append, List.map_append, List.map_append, List.map_append, List.map_append, List.map_append]
  have e1 : ∀ (g g2 : Nat → Nat → Int32) (ad : Nat → Nat) (w m : Nat), (rowsW (k 0) ad w g m).map Prod.fst = (rowsW (k 0) ad w g2 m).map Prod.fst := by
    intro g g2 ad w m
    unfold rowsW
    rw [List.map_map, List.map_map]
    rfl
  rw [e1 (flR G2) (flR G), e1 (bgR G2 T2) (bgR G T)]
  rfl
theorem lws_b0 {k : Nat → ClassId} {a tr o fa ba : Nat → Nat} {x : Nat} {S U G T : HS} {n nf L : Nat} {R : va_W} {b : Nat} {v : Int32} (h : b < n) : (LW k a tr o fa ba x S U G T n nf L R).set (64 + nf + b) (ba b, .inl (k 0, 8, .inl (upd (bgR G T b) 0 v))) = LW k a tr o fa ba x S U (sf G 4 (upd (G 4) b v)) T n nf L R := by
  refine lw_bset h (funext fun j => ?_) (fun i hi hj => funext fun j => ?_) rfl rfl
  · match j with
    | 0 => exact if_pos rfl
    | 1 => rfl
    | 2 => rfl
    | 3 => rfl
    | 4 => rfl
    | 5 => rfl
    | 6 => rfl
    | 7 => rfl
    | _ + 8 => rfl
  · match j with
    | 0 => exact if_neg hj
    | 1 => rfl
    | 2 => rfl
    | 3 => rfl
    | 4 => rfl
    | 5 => rfl
    | 6 => rfl
    | 7 => rfl
    | _ + 8 => rfl
theorem lws_b1 {k : Nat → ClassId} {a tr o fa ba : Nat → Nat} {x : Nat} {S U G T : HS} {n nf L : Nat} {R : va_W} {b : Nat} {v : Int32} (h : b < n) : (LW k a tr o fa ba x S U G T n nf L R).set (64 + nf + b) (ba b, .inl (k 0, 8, .inl (upd (bgR G T b) 1 v))) = LW k a tr o fa ba x S U (sf G 5 (upd (G 5) b v)) T n nf L R := by
  refine lw_bset h (funext fun j => ?_) (fun i hi hj => funext fun j => ?_) rfl rfl
  · match j with
    | 0 => rfl
    | 1 => exact if_pos rfl
    | 2 => rfl
    | 3 => rfl
    | 4 => rfl
    | 5 => rfl
    | 6 => rfl
    | 7 => rfl
    | _ + 8 => rfl
  · match j with
    | 0 => rfl
    | 1 => exact if_neg hj
    | 2 => rfl
    | 3 => rfl
    | 4 => rfl
    | 5 => rfl
    | 6 => rfl
    | 7 => rfl
    | _ + 8 => rfl
theorem lws_b2 {k : Nat → ClassId} {a tr o fa ba : Nat → Nat} {x : Nat} {S U G T : HS} {n nf L : Nat} {R : va_W} {b : Nat} {v : Int32} (h : b < n) : (LW k a tr o fa ba x S U G T n nf L R).set (64 + nf + b) (ba b, .inl (k 0, 8, .inl (upd (bgR G T b) 2 v))) = LW k a tr o fa ba x S U (sf G 6 (upd (G 6) b v)) T n nf L R := by
  refine lw_bset h (funext fun j => ?_) (fun i hi hj => funext fun j => ?_) rfl rfl
  · match j with
    | 0 => rfl
    | 1 => rfl
    | 2 => exact if_pos rfl
    | 3 => rfl
    | 4 => rfl
    | 5 => rfl
    | 6 => rfl
    | 7 => rfl
    | _ + 8 => rfl
  · match j with
    | 0 => rfl
    | 1 => rfl
    | 2 => exact if_neg hj
    | 3 => rfl
    | 4 => rfl
    | 5 => rfl
    | 6 => rfl
    | 7 => rfl
    | _ + 8 => rfl
theorem lws_b3 {k : Nat → ClassId} {a tr o fa ba : Nat → Nat} {x : Nat} {S U G T : HS} {n nf L : Nat} {R : va_W} {b : Nat} {v : Int32} (h : b < n) : (LW k a tr o fa ba x S U G T n nf L R).set (64 + nf + b) (ba b, .inl (k 0, 8, .inl (upd (bgR G T b) 3 v))) = LW k a tr o fa ba x S U G (sf T 1 (upd (T 1) b v)) n nf L R := by
  refine lw_bset h (funext fun j => ?_) (fun i hi hj => funext fun j => ?_) rfl rfl
  · match j with
    | 0 => rfl
    | 1 => rfl
    | 2 => rfl
    | 3 => exact if_pos rfl
    | 4 => rfl
    | 5 => rfl
    | 6 => rfl
    | 7 => rfl
    | _ + 8 => rfl
  · match j with
    | 0 => rfl
    | 1 => rfl
    | 2 => rfl
    | 3 => exact if_neg hj
    | 4 => rfl
    | 5 => rfl
    | 6 => rfl
    | 7 => rfl
    | _ + 8 => rfl
theorem lws_b4 {k : Nat → ClassId} {a tr o fa ba : Nat → Nat} {x : Nat} {S U G T : HS} {n nf L : Nat} {R : va_W} {b : Nat} {v : Int32} (h : b < n) : (LW k a tr o fa ba x S U G T n nf L R).set (64 + nf + b) (ba b, .inl (k 0, 8, .inl (upd (bgR G T b) 4 v))) = LW k a tr o fa ba x S U G (sf T 2 (upd (T 2) b v)) n nf L R := by
  refine lw_bset h (funext fun j => ?_) (fun i hi hj => funext fun j => ?_) rfl rfl
  · match j with
    | 0 => rfl
    | 1 => rfl
    | 2 => rfl
    | 3 => rfl
    | 4 => exact if_pos rfl
    | 5 => rfl
    | 6 => rfl
    | 7 => rfl
    | _ + 8 => rfl
  · match j with
    | 0 => rfl
    | 1 => rfl
    | 2 => rfl
    | 3 => rfl
    | 4 => exact if_neg hj
    | 5 => rfl
    | 6 => rfl
    | 7 => rfl
    | _ + 8 => rfl
theorem lws_b5 {k : Nat → ClassId} {a tr o fa ba : Nat → Nat} {x : Nat} {S U G T : HS} {n nf L : Nat} {R : va_W} {b : Nat} {v : Int32} (h : b < n) : (LW k a tr o fa ba x S U G T n nf L R).set (64 + nf + b) (ba b, .inl (k 0, 8, .inl (upd (bgR G T b) 5 v))) = LW k a tr o fa ba x S U G (sf T 3 (upd (T 3) b v)) n nf L R := by
  refine lw_bset h (funext fun j => ?_) (fun i hi hj => funext fun j => ?_) rfl rfl
  · match j with
    | 0 => rfl
    | 1 => rfl
    | 2 => rfl
    | 3 => rfl
    | 4 => rfl
    | 5 => exact if_pos rfl
    | 6 => rfl
    | 7 => rfl
    | _ + 8 => rfl
  · match j with
    | 0 => rfl
    | 1 => rfl
    | 2 => rfl
    | 3 => rfl
    | 4 => rfl
    | 5 => exact if_neg hj
    | 6 => rfl
    | 7 => rfl
    | _ + 8 => rfl
theorem lws_b6 {k : Nat → ClassId} {a tr o fa ba : Nat → Nat} {x : Nat} {S U G T : HS} {n nf L : Nat} {R : va_W} {b : Nat} {v : Int32} (h : b < n) : (LW k a tr o fa ba x S U G T n nf L R).set (64 + nf + b) (ba b, .inl (k 0, 8, .inl (upd (bgR G T b) 6 v))) = LW k a tr o fa ba x S U G (sf T 4 (upd (T 4) b v)) n nf L R := by
  refine lw_bset h (funext fun j => ?_) (fun i hi hj => funext fun j => ?_) rfl rfl
  · match j with
    | 0 => rfl
    | 1 => rfl
    | 2 => rfl
    | 3 => rfl
    | 4 => rfl
    | 5 => rfl
    | 6 => exact if_pos rfl
    | 7 => rfl
    | _ + 8 => rfl
  · match j with
    | 0 => rfl
    | 1 => rfl
    | 2 => rfl
    | 3 => rfl
    | 4 => rfl
    | 5 => rfl
    | 6 => exact if_neg hj
    | 7 => rfl
    | _ + 8 => rfl
/-- a row's first eight say all that its cells hold -/
theorem lws_b7P {k : Nat → ClassId} {a tr o fa ba : Nat → Nat} {x : Nat} {S U G T : HS} {n nf L : Nat} {R : va_W} {D : va_G} {H : Heap} {b : Nat} {v : Int32} (h : b < n) (hP : va_P D vwCl ((LW k a tr o fa ba x S U G T n nf L R).set (64 + nf + b) (ba b, .inl (k 0, 8, .inl (upd (bgR G T b) 7 v)))) H) : va_P D vwCl (LW k a tr o fa ba x S U (sf G 7 (upd (G 7) b v)) T n nf L R) H := by
  have e : (LW k a tr o fa ba x S U G T n nf L R).set (64 + nf + b) (ba b, .inl (k 0, 8, .inl (bgR (sf G 7 (upd (G 7) b v)) T b))) = LW k a tr o fa ba x S U (sf G 7 (upd (G 7) b v)) T n nf L R := by
    refine lw_bset h rfl (fun i hi hj => funext fun j => ?_) rfl rfl
    match j with
    | 0 => exact rfl
    | 1 => exact rfl
    | 2 => exact rfl
    | 3 => exact rfl
    | 4 => exact rfl
    | 5 => exact rfl
    | 6 => exact rfl
    | 7 => exact if_neg hj
    | _ + 8 => exact if_neg hj
  have h1 := row_cong (g := bgR (sf G 7 (upd (G 7) b v)) T b) hP (rs_a (lw_b h)) (fun j hj => ?_)
  · rw [rs_s, e] at h1
    exact h1
  · match j, hj with
    | 0, _ => exact rfl
    | 1, _ => exact rfl
    | 2, _ => exact rfl
    | 3, _ => exact rfl
    | 4, _ => exact rfl
    | 5, _ => exact rfl
    | 6, _ => exact rfl
    | 7, _ => exact (if_pos rfl : upd (bgR G T b) 7 v 7 = v).trans (if_pos rfl : upd (G 7) b v b = v).symm
    | j + 8, hj => exact absurd hj (by omega)
theorem lws_b7D {k : Nat → ClassId} {a tr o fa ba : Nat → Nat} {x : Nat} {S U G T : HS} {n nf L : Nat} {R : va_W} {A : Nat → Prop} {b : Nat} {v : Int32} (h : b < n) (hD : va_D A ((LW k a tr o fa ba x S U G T n nf L R).set (64 + nf + b) (ba b, .inl (k 0, 8, .inl (upd (bgR G T b) 7 v))))) : va_D A (LW k a tr o fa ba x S U (sf G 7 (upd (G 7) b v)) T n nf L R) := vaD_same hD (by rw [set_same (lw_b h)]; exact lw_same)
theorem lws_f0 {k : Nat → ClassId} {a tr o fa ba : Nat → Nat} {x : Nat} {S U G T : HS} {n nf L : Nat} {R : va_W} {f : Nat} {v : Int32} (h : f < nf) : (LW k a tr o fa ba x S U G T n nf L R).set (64 + f) (fa f, .inl (k 0, 2, .inl (upd (flR G f) 0 v))) = LW k a tr o fa ba x S U (sf G 1 (upd (G 1) f v)) T n nf L R := by
  refine lw_fset h (funext fun j => ?_) (fun i hi hj => funext fun j => ?_) rfl rfl
  · match j with
    | 0 => exact if_pos rfl
    | _ + 1 => rfl
  · match j with
    | 0 => exact if_neg hj
    | _ + 1 => rfl
theorem lws_f1P {k : Nat → ClassId} {a tr o fa ba : Nat → Nat} {x : Nat} {S U G T : HS} {n nf L : Nat} {R : va_W} {D : va_G} {H : Heap} {f : Nat} {v : Int32} (h : f < nf) (hP : va_P D vwCl ((LW k a tr o fa ba x S U G T n nf L R).set (64 + f) (fa f, .inl (k 0, 2, .inl (upd (flR G f) 1 v)))) H) : va_P D vwCl (LW k a tr o fa ba x S U (sf G 2 (upd (G 2) f v)) T n nf L R) H := by
  have e : (LW k a tr o fa ba x S U G T n nf L R).set (64 + f) (fa f, .inl (k 0, 2, .inl (flR (sf G 2 (upd (G 2) f v)) f))) = LW k a tr o fa ba x S U (sf G 2 (upd (G 2) f v)) T n nf L R := by
    refine lw_fset h rfl (fun i hi hj => funext fun j => ?_) rfl rfl
    match j with
    | 0 => rfl
    | _ + 1 => exact if_neg hj
  have h1 := row_cong (g := flR (sf G 2 (upd (G 2) f v)) f) hP (rs_a (lw_f h)) (fun j hj => ?_)
  · rw [rs_s, e] at h1
    exact h1
  · match j, hj with
    | 0, _ => exact rfl
    | 1, _ => exact (if_pos rfl : upd (flR G f) 1 v 1 = v).trans (if_pos rfl : upd (G 2) f v f = v).symm
    | j + 2, hj => exact absurd hj (by omega)
theorem lws_f1D {k : Nat → ClassId} {a tr o fa ba : Nat → Nat} {x : Nat} {S U G T : HS} {n nf L : Nat} {R : va_W} {A : Nat → Prop} {f : Nat} {v : Int32} (h : f < nf) (hD : va_D A ((LW k a tr o fa ba x S U G T n nf L R).set (64 + f) (fa f, .inl (k 0, 2, .inl (upd (flR G f) 1 v))))) : va_D A (LW k a tr o fa ba x S U (sf G 2 (upd (G 2) f v)) T n nf L R) := vaD_same hD (by rw [set_same (lw_f h)]; exact lw_same)
theorem lws_rm {k : Nat → ClassId} {a tr o fa ba : Nat → Nat} {x : Nat} {S U G T : HS} {n nf L : Nat} {R : va_W} {f : Nat → Int32} : (LW k a tr o fa ba x S U G T n nf L R).set 60 (o 1, .inl (k 0, 4, .inl f)) = LW k a tr o fa ba x S U (sf G 3 f) T n nf L R := rfl
theorem lws_mi {k : Nat → ClassId} {a tr o fa ba : Nat → Nat} {x : Nat} {S U G T : HS} {n nf L : Nat} {R : va_W} {v : Int32} : (LW k a tr o fa ba x S U G T n nf L R).set 59 (o 0, .inr (5, ([.int (T 0 0), .int (G 0 2), .ref (o 1), .ref (o 2), .ref (o 3), .ref (o 4)] : List Value).set 0 (.int v))) = LW k a tr o fa ba x S U G (sf T 0 (upd (T 0) 0 v)) n nf L R := rfl
theorem lws_st {k : Nat → ClassId} {a tr o fa ba : Nat → Nat} {x : Nat} {S U G T : HS} {n nf L : Nat} {R : va_W} {v : Int32} : (LW k a tr o fa ba x S U G T n nf L R).set 59 (o 0, .inr (5, ([.int (T 0 0), .int (G 0 2), .ref (o 1), .ref (o 2), .ref (o 3), .ref (o 4)] : List Value).set 1 (.int v))) = LW k a tr o fa ba x S U (sf G 0 (upd (G 0) 2 v)) T n nf L R := rfl
theorem lw_rmP {k : Nat → ClassId} {a tr o fa ba : Nat → Nat} {x : Nat} {S U G T : HS} {n nf L : Nat} {R : va_W} {D : va_G} {H : Heap} {G2 : HS} (hP : va_P D vwCl (LW k a tr o fa ba x S U G T n nf L R) H) (h3 : ∀ c, c < 4 → G 3 c = G2 3 c) (e : LW k a tr o fa ba x S U (sf G 3 (G2 3)) T n nf L R = LW k a tr o fa ba x S U G2 T n nf L R) : va_P D vwCl (LW k a tr o fa ba x S U G2 T n nf L R) H := by
  rw [← e]
  exact row_cong (i := 60) hP rfl h3
theorem lw_lnP {k : Nat → ClassId} {a tr o fa ba : Nat → Nat} {x : Nat} {S U G T : HS} {n nf L : Nat} {R : va_W} {D : va_G} {H : Heap} {f : Nat → Int32} (hP : va_P D vwCl (LW k a tr o fa ba x S U G T n nf L R) H) (h6 : ∀ j, j < L → T 6 j = f j) : va_P D vwCl (LW k a tr o fa ba x S U G (sf T 6 f) n nf L R) H := row_cong (i := 63) hP rfl h6
/-- cells that nothing needs any more are left out -/
theorem vaP_drop {D : va_G} {cl : List vw_C} {w w2 z : va_W} {H : Heap} (h : va_P D cl w H) (hp : w.Perm (w2 ++ z)) : va_P D cl w2 H := vaP_mem h (fun q hq => hp.symm.mem_iff.mp (List.mem_append_left z hq))
theorem vaD_drop {A : Nat → Prop} {w w2 z : va_W} (h : va_D A w) (hp : w.Perm (w2 ++ z)) : va_D A w2 := by
  have h1 := vaD_perm h hp.symm
  rw [vaD_iff] at h1 ⊢
  refine ⟨?_, fun q hq => h1.2 q (List.mem_append_left z hq)⟩
  have h2 := h1.1
  rw [List.map_append] at h2
  exact (List.nodup_append.mp h2).1
theorem perm_last (A B : va_W) (x y : Nat × va_E) : ((A ++ (x :: B)) ++ [y]).Perm ((A ++ (y :: B)) ++ [x]) := by
  rw [List.append_assoc, List.append_assoc]
  refine List.Perm.append_left A ?_
  have h1 : (B ++ [y]).Perm (y :: B) := List.perm_append_singleton y B
  have h2 : (B ++ [x]).Perm (x :: B) := List.perm_append_singleton x B
  exact ((h1.cons x).trans (List.Perm.swap y x B)).trans (h2.symm.cons y)
/-- R is left out -/
theorem lw_dropP {k : Nat → ClassId} {a tr o fa ba : Nat → Nat} {x : Nat} {S U G T : HS} {n nf L : Nat} {R : va_W} {D : va_G} {H : Heap} (hP : va_P D vwCl (LW k a tr o fa ba x S U G T n nf L R) H) : va_P D vwCl (LW k a tr o fa ba x S U G T n nf L []) H := by
  rw [lw_app] at hP
  exact vaP_drop hP (List.Perm.refl _)
theorem lw_dropD {k : Nat → ClassId} {a tr o fa ba : Nat → Nat} {x : Nat} {S U G T : HS} {n nf L : Nat} {R : va_W} {A : Nat → Prop} (hD : va_D A (LW k a tr o fa ba x S U G T n nf L R)) : va_D A (LW k a tr o fa ba x S U G T n nf L []) := by
  rw [lw_app] at hD
  exact vaD_drop hD (List.Perm.refl _)
def oLn (o : Nat → Nat) (i q : Nat) : Nat → Nat := fun j => if j = i then q else o j
/-- a new line -/
theorem lw_newLn {k : Nat → ClassId} {a tr o fa ba : Nat → Nat} {x : Nat} {S U G T : HS} {n nf L : Nat} {R : va_W} {D : va_G} {A : Nat → Prop} {H : Heap} {q L2 : Nat} {f : Nat → Int32} (hP : va_P D vwCl ((LW k a tr o fa ba x S U G T n nf L R ++ ([(q, .inl (k 0, L2, .inl f))] : va_W)).set 59 (o 0, .inr (5, ([.int (T 0 0), .int (G 0 2), .ref (o 1), .ref (o 2), .ref (o 3), .ref (o 4)] : List Value).set 5 (.ref q)))) H) (hD : va_D A ((LW k a tr o fa ba x S U G T n nf L R ++ ([(q, .inl (k 0, L2, .inl f))] : va_W)).set 59 (o 0, .inr (5, ([.int (T 0 0), .int (G 0 2), .ref (o 1), .ref (o 2), .ref (o 3), .ref (o 4)] : List Value).set 5 (.ref q))))) : va_P D vwCl (LW k a tr (oLn o 4 q) fa ba x S U G (sf T 6 f) n nf L2 R) H ∧ va_D A (LW k a tr (oLn o 4 q) fa ba x S U G (sf T 6 f) n nf L2 R) := by
  have hp := perm_last (hw k a S ++ ((x, .inr (4, [.ref (a 0), .ref (tr 0)])) :: (hw k tr U ++ [(o 0, .inr (5, [.int (T 0 0), .int (G 0 2), .ref (o 1), .ref (o 2), .ref (o 3), .ref q])), (o 1, .inl (k 0, 4, .inl (G 3))), (o 2, outA (k 2) nf (rfA fa)), (o 3, outA (k 2) n (rfA ba))]))) (rowsW (k 0) fa 2 (flR G) nf ++ (rowsW (k 0) ba 8 (bgR G T) n ++ R)) (o 4, .inl (k 0, L, .inl (T 6))) (q, .inl (k 0, L2, .inl f))
  exact ⟨vaP_drop hP hp, vaD_drop hD hp⟩
