/-! the states of both sides, as functions of a row's number and a place; the cells that hold them -/
abbrev HS : Type := Nat → Nat → Int32
def sf (S : HS) (i : Nat) (f : Nat → Int32) : HS := fun j => if j = i then f else S j
theorem sf_eq (S : HS) (i : Nat) (f : Nat → Int32) : sf S i f i = f := if_pos rfl
theorem sf_ne (S : HS) {i j : Nat} (f : Nat → Int32) (h : j ≠ i) : sf S i f j = S j := if_neg h
/-- a choice without an instance -/
noncomputable def sel {α : Type} (P : Prop) (a b : α) : α := @ite α P (Classical.propDecidable P) a b
theorem sel_t {α : Type} {P : Prop} (h : P) (a b : α) : sel P a b = a := if_pos h
theorem sel_f {α : Type} {P : Prop} (h : ¬ P) (a b : α) : sel P a b = b := if_neg h
noncomputable def bI (P : Prop) : Int32 := sel P 1 0
theorem bI_t {P : Prop} (h : P) : bI P = 1 := sel_t h _ _
theorem bI_f {P : Prop} (h : ¬ P) : bI P = 0 := sel_f h _ _
theorem bI_0 {P : Prop} (h : bI P = 0) : ¬ P := fun q => absurd (h.symm.trans (bI_t q)) (by decide)
theorem bI_n {P : Prop} (h : ¬ bI P = 0) : P := Classical.byContradiction (fun q => h (bI_f q))
theorem bI_narrow (P : Prop) : narrow .boolean (.int (bI P)) = .int (bI P) := by
  by_cases h : P
  · rw [bI_t h]; rfl
  · rw [bI_f h]; rfl
theorem bI_cong {P Q : Prop} (h : P ↔ Q) : bI P = bI Q := by rw [propext h]
noncomputable def bN (P : Prop) : Nat := sel P 1 0
/-- how many of the first n -/
noncomputable def ct (p : Nat → Prop) : Nat → Nat
  | 0 => 0
  | n + 1 => ct p n + bN (p n)
theorem ct_t {p : Nat → Prop} {n : Nat} (h : p n) : ct p (n + 1) = ct p n + 1 := by show ct p n + bN (p n) = _; rw [bN, sel_t h]
theorem ct_f {p : Nat → Prop} {n : Nat} (h : ¬ p n) : ct p (n + 1) = ct p n := by show ct p n + bN (p n) = _; rw [bN, sel_f h]; rfl
theorem ct_le (p : Nat → Prop) : ∀ n, ct p n ≤ n
  | 0 => Nat.le_refl _
  | n + 1 => by
    by_cases h : p n
    · rw [ct_t h]; exact Nat.succ_le_succ (ct_le p n)
    · rw [ct_f h]; exact Nat.le_succ_of_le (ct_le p n)
theorem ct_cong {p q : Nat → Prop} : ∀ {n : Nat}, (∀ k, k < n → (p k ↔ q k)) → ct p n = ct q n
  | 0, _ => rfl
  | n + 1, h => by
    show ct p n + bN (p n) = ct q n + bN (q n)
    rw [ct_cong (fun k hk => h k (Nat.lt_succ_of_lt hk)), propext (h n (Nat.lt_succ_self n))]
/-- the sum of the first n -/
def sm (f : Nat → Int32) : Nat → Int32
  | 0 => 0
  | n + 1 => sm f n + f n
/-- the first place at i or behind it that holds v; -1 for none within d -/
noncomputable def fnd (f : Nat → Int32) (v : Int32) : Nat → Nat → Int32
  | _, 0 => -1
  | i, d + 1 => sel (f i = v) (nI i) (fnd f v (i + 1) d)
/-- a row's place, -1 beyond its ends; and the row with one place written -/
noncomputable def rd (n : Nat) (f : Nat → Int32) (i : Int32) : Int32 := sel (i < 0) (-1) (sel (nI n ≤ i) (-1) (f i.toNatClampNeg))
noncomputable def wr (n : Nat) (f : Nat → Int32) (i x : Int32) : Nat → Int32 := sel (i < 0) f (sel (nI n ≤ i) f (upd f i.toNatClampNeg x))
theorem rd_n {n j : Nat} {f : Nat → Int32} (hj : j < n) (hn : n < 2 ^ 31) : rd n f (nI j) = f j := by
  rw [rd, sel_f (nI_pos (Nat.lt_trans hj hn)), sel_f (nI_ge hj hn), nI_clamp (Nat.lt_trans hj hn)]
theorem wr_n {n j : Nat} {f : Nat → Int32} {x : Int32} (hj : j < n) (hn : n < 2 ^ 31) : wr n f (nI j) x = upd f j x := by
  rw [wr, sel_f (nI_pos (Nat.lt_trans hj hn)), sel_f (nI_ge hj hn), nI_clamp (Nat.lt_trans hj hn)]
theorem rd_neg {n : Nat} {f : Nat → Int32} {i : Int32} (h : i < 0) : rd n f i = -1 := by rw [rd, sel_t h]
theorem rd_big {n : Nat} {f : Nat → Int32} {i : Int32} (h : nI n ≤ i) : rd n f i = -1 := by
  rw [rd]
  by_cases q : i < 0
  · rw [sel_t q]
  · rw [sel_f q, sel_t h]
/-- a row of a world under a pointwise equal content -/
theorem row_cong {D : va_G} {cl : List vw_C} {ws : va_W} {H : Heap} {i a n : Nat} {cA : ClassId} {f g : Nat → Int32} (hP : va_P D cl ws H) (h : ws[i]? = some (a, .inl (cA, n, .inl f))) (e : ∀ j, j < n → f j = g j) : va_P D cl (ws.set i (a, .inl (cA, n, .inl g))) H := by
  have hl := (List.getElem?_eq_some_iff.mp h).1
  intro k q hk
  by_cases hki : k = i
  · subst hki
    rw [List.getElem?_set_self hl] at hk
    cases hk
    have h1 := hP k _ h
    show H[a]? = some (vp_cell cA (n, .inl g))
    have h2 : H[a]? = some (vp_cell cA (n, .inl f)) := h1
    rw [h2]
    congr 1
    rw [vp_cell_i, vp_cell_i]
    exact congrArg (fun z : Fin n → Value => ({ cls := cA, slots := Array.ofFn z, vm := .none } : Cell)) (funext fun j => congrArg Value.int (e j.val j.isLt))
  · rw [List.getElem?_set_ne (Ne.symm hki)] at hk
    exact hP k q hk

def hw (k : Nat → ClassId) (a : Nat → Nat) (S : HS) : va_W := [(a 0, .inr (2, [.int (S 0 0), .int (S 0 1), .int (S 0 2), .ref (a 1), .ref (a 2), .ref (a 3), .ref (a 4), .ref (a 5)])), (a 1, .inr (1, [.int (S 0 3), .ref (a 6), .ref (a 7)])), (a 2, .inr (0, [.int (S 0 4), .ref (a 8), .ref (a 9), .ref (a 10), .ref (a 11), .ref (a 12), .ref (a 13), .ref (a 14), .ref (a 15)])), (a 3, .inr (3, [.ref (a 16)])), (a 4, .inr (3, [.ref (a 17)])), (a 5, .inr (3, [.ref (a 18)])), (a 6, .inr (3, [.ref (a 19)])), (a 7, .inr (3, [.ref (a 20)])), (a 8, .inr (3, [.ref (a 21)])), (a 9, .inr (3, [.ref (a 22)])), (a 10, .inr (3, [.ref (a 23)])), (a 11, .inr (3, [.ref (a 24)])), (a 12, .inr (3, [.ref (a 25)])), (a 13, .inr (3, [.ref (a 26)])), (a 14, .inr (3, [.ref (a 27)])), (a 15, .inr (3, [.ref (a 28)])), (a 16, .inl (k 0, 4, .inl (S 11))), (a 17, .inl (k 0, 12, .inl (S 12))), (a 18, .inl (k 0, 40, .inl (S 13))), (a 19, .inl (k 0, 6, .inl (S 1))), (a 20, .inl (k 0, 6, .inl (S 2))), (a 21, .inl (k 0, 40, .inl (S 3))), (a 22, .inl (k 0, 40, .inl (S 4))), (a 23, .inl (k 0, 40, .inl (S 5))), (a 24, .inl (k 0, 40, .inl (S 6))), (a 25, .inl (k 0, 40, .inl (S 7))), (a 26, .inl (k 0, 40, .inl (S 8))), (a 27, .inl (k 0, 40, .inl (S 9))), (a 28, .inl (k 0, 40, .inl (S 10)))]
theorem hw_0 {k : Nat → ClassId} {a : Nat → Nat} {S : HS} {R : va_W} : (hw k a S ++ R)[0]? = some (a 0, .inr (2, [.int (S 0 0), .int (S 0 1), .int (S 0 2), .ref (a 1), .ref (a 2), .ref (a 3), .ref (a 4), .ref (a 5)])) := rfl
theorem hw_1 {k : Nat → ClassId} {a : Nat → Nat} {S : HS} {R : va_W} : (hw k a S ++ R)[1]? = some (a 1, .inr (1, [.int (S 0 3), .ref (a 6), .ref (a 7)])) := rfl
theorem hw_2 {k : Nat → ClassId} {a : Nat → Nat} {S : HS} {R : va_W} : (hw k a S ++ R)[2]? = some (a 2, .inr (0, [.int (S 0 4), .ref (a 8), .ref (a 9), .ref (a 10), .ref (a 11), .ref (a 12), .ref (a 13), .ref (a 14), .ref (a 15)])) := rfl
theorem hw_3 {k : Nat → ClassId} {a : Nat → Nat} {S : HS} {R : va_W} : (hw k a S ++ R)[3]? = some (a 3, .inr (3, [.ref (a 16)])) := rfl
theorem hw_4 {k : Nat → ClassId} {a : Nat → Nat} {S : HS} {R : va_W} : (hw k a S ++ R)[4]? = some (a 4, .inr (3, [.ref (a 17)])) := rfl
theorem hw_5 {k : Nat → ClassId} {a : Nat → Nat} {S : HS} {R : va_W} : (hw k a S ++ R)[5]? = some (a 5, .inr (3, [.ref (a 18)])) := rfl
theorem hw_6 {k : Nat → ClassId} {a : Nat → Nat} {S : HS} {R : va_W} : (hw k a S ++ R)[6]? = some (a 6, .inr (3, [.ref (a 19)])) := rfl
theorem hw_7 {k : Nat → ClassId} {a : Nat → Nat} {S : HS} {R : va_W} : (hw k a S ++ R)[7]? = some (a 7, .inr (3, [.ref (a 20)])) := rfl
theorem hw_8 {k : Nat → ClassId} {a : Nat → Nat} {S : HS} {R : va_W} : (hw k a S ++ R)[8]? = some (a 8, .inr (3, [.ref (a 21)])) := rfl
theorem hw_9 {k : Nat → ClassId} {a : Nat → Nat} {S : HS} {R : va_W} : (hw k a S ++ R)[9]? = some (a 9, .inr (3, [.ref (a 22)])) := rfl
theorem hw_10 {k : Nat → ClassId} {a : Nat → Nat} {S : HS} {R : va_W} : (hw k a S ++ R)[10]? = some (a 10, .inr (3, [.ref (a 23)])) := rfl
theorem hw_11 {k : Nat → ClassId} {a : Nat → Nat} {S : HS} {R : va_W} : (hw k a S ++ R)[11]? = some (a 11, .inr (3, [.ref (a 24)])) := rfl
theorem hw_12 {k : Nat → ClassId} {a : Nat → Nat} {S : HS} {R : va_W} : (hw k a S ++ R)[12]? = some (a 12, .inr (3, [.ref (a 25)])) := rfl
theorem hw_13 {k : Nat → ClassId} {a : Nat → Nat} {S : HS} {R : va_W} : (hw k a S ++ R)[13]? = some (a 13, .inr (3, [.ref (a 26)])) := rfl
theorem hw_14 {k : Nat → ClassId} {a : Nat → Nat} {S : HS} {R : va_W} : (hw k a S ++ R)[14]? = some (a 14, .inr (3, [.ref (a 27)])) := rfl
theorem hw_15 {k : Nat → ClassId} {a : Nat → Nat} {S : HS} {R : va_W} : (hw k a S ++ R)[15]? = some (a 15, .inr (3, [.ref (a 28)])) := rfl
theorem hw_16 {k : Nat → ClassId} {a : Nat → Nat} {S : HS} {R : va_W} : (hw k a S ++ R)[16]? = some (a 16, .inl (k 0, 4, .inl (S 11))) := rfl
theorem hw_17 {k : Nat → ClassId} {a : Nat → Nat} {S : HS} {R : va_W} : (hw k a S ++ R)[17]? = some (a 17, .inl (k 0, 12, .inl (S 12))) := rfl
theorem hw_18 {k : Nat → ClassId} {a : Nat → Nat} {S : HS} {R : va_W} : (hw k a S ++ R)[18]? = some (a 18, .inl (k 0, 40, .inl (S 13))) := rfl
theorem hw_19 {k : Nat → ClassId} {a : Nat → Nat} {S : HS} {R : va_W} : (hw k a S ++ R)[19]? = some (a 19, .inl (k 0, 6, .inl (S 1))) := rfl
theorem hw_20 {k : Nat → ClassId} {a : Nat → Nat} {S : HS} {R : va_W} : (hw k a S ++ R)[20]? = some (a 20, .inl (k 0, 6, .inl (S 2))) := rfl
theorem hw_21 {k : Nat → ClassId} {a : Nat → Nat} {S : HS} {R : va_W} : (hw k a S ++ R)[21]? = some (a 21, .inl (k 0, 40, .inl (S 3))) := rfl
theorem hw_22 {k : Nat → ClassId} {a : Nat → Nat} {S : HS} {R : va_W} : (hw k a S ++ R)[22]? = some (a 22, .inl (k 0, 40, .inl (S 4))) := rfl
theorem hw_23 {k : Nat → ClassId} {a : Nat → Nat} {S : HS} {R : va_W} : (hw k a S ++ R)[23]? = some (a 23, .inl (k 0, 40, .inl (S 5))) := rfl
theorem hw_24 {k : Nat → ClassId} {a : Nat → Nat} {S : HS} {R : va_W} : (hw k a S ++ R)[24]? = some (a 24, .inl (k 0, 40, .inl (S 6))) := rfl
theorem hw_25 {k : Nat → ClassId} {a : Nat → Nat} {S : HS} {R : va_W} : (hw k a S ++ R)[25]? = some (a 25, .inl (k 0, 40, .inl (S 7))) := rfl
theorem hw_26 {k : Nat → ClassId} {a : Nat → Nat} {S : HS} {R : va_W} : (hw k a S ++ R)[26]? = some (a 26, .inl (k 0, 40, .inl (S 8))) := rfl
theorem hw_27 {k : Nat → ClassId} {a : Nat → Nat} {S : HS} {R : va_W} : (hw k a S ++ R)[27]? = some (a 27, .inl (k 0, 40, .inl (S 9))) := rfl
theorem hw_28 {k : Nat → ClassId} {a : Nat → Nat} {S : HS} {R : va_W} : (hw k a S ++ R)[28]? = some (a 28, .inl (k 0, 40, .inl (S 10))) := rfl
theorem hws_1 {k : Nat → ClassId} {a : Nat → Nat} {S : HS} {R : va_W} {f : Nat → Int32} : (hw k a S ++ R).set 19 (a 19, .inl (k 0, 6, .inl f)) = hw k a (sf S 1 f) ++ R := rfl
theorem hws_2 {k : Nat → ClassId} {a : Nat → Nat} {S : HS} {R : va_W} {f : Nat → Int32} : (hw k a S ++ R).set 20 (a 20, .inl (k 0, 6, .inl f)) = hw k a (sf S 2 f) ++ R := rfl
theorem hws_3 {k : Nat → ClassId} {a : Nat → Nat} {S : HS} {R : va_W} {f : Nat → Int32} : (hw k a S ++ R).set 21 (a 21, .inl (k 0, 40, .inl f)) = hw k a (sf S 3 f) ++ R := rfl
theorem hws_4 {k : Nat → ClassId} {a : Nat → Nat} {S : HS} {R : va_W} {f : Nat → Int32} : (hw k a S ++ R).set 22 (a 22, .inl (k 0, 40, .inl f)) = hw k a (sf S 4 f) ++ R := rfl
theorem hws_5 {k : Nat → ClassId} {a : Nat → Nat} {S : HS} {R : va_W} {f : Nat → Int32} : (hw k a S ++ R).set 23 (a 23, .inl (k 0, 40, .inl f)) = hw k a (sf S 5 f) ++ R := rfl
theorem hws_6 {k : Nat → ClassId} {a : Nat → Nat} {S : HS} {R : va_W} {f : Nat → Int32} : (hw k a S ++ R).set 24 (a 24, .inl (k 0, 40, .inl f)) = hw k a (sf S 6 f) ++ R := rfl
theorem hws_7 {k : Nat → ClassId} {a : Nat → Nat} {S : HS} {R : va_W} {f : Nat → Int32} : (hw k a S ++ R).set 25 (a 25, .inl (k 0, 40, .inl f)) = hw k a (sf S 7 f) ++ R := rfl
theorem hws_8 {k : Nat → ClassId} {a : Nat → Nat} {S : HS} {R : va_W} {f : Nat → Int32} : (hw k a S ++ R).set 26 (a 26, .inl (k 0, 40, .inl f)) = hw k a (sf S 8 f) ++ R := rfl
theorem hws_9 {k : Nat → ClassId} {a : Nat → Nat} {S : HS} {R : va_W} {f : Nat → Int32} : (hw k a S ++ R).set 27 (a 27, .inl (k 0, 40, .inl f)) = hw k a (sf S 9 f) ++ R := rfl
theorem hws_10 {k : Nat → ClassId} {a : Nat → Nat} {S : HS} {R : va_W} {f : Nat → Int32} : (hw k a S ++ R).set 28 (a 28, .inl (k 0, 40, .inl f)) = hw k a (sf S 10 f) ++ R := rfl
theorem hws_11 {k : Nat → ClassId} {a : Nat → Nat} {S : HS} {R : va_W} {f : Nat → Int32} : (hw k a S ++ R).set 16 (a 16, .inl (k 0, 4, .inl f)) = hw k a (sf S 11 f) ++ R := rfl
theorem hws_12 {k : Nat → ClassId} {a : Nat → Nat} {S : HS} {R : va_W} {f : Nat → Int32} : (hw k a S ++ R).set 17 (a 17, .inl (k 0, 12, .inl f)) = hw k a (sf S 12 f) ++ R := rfl
theorem hws_13 {k : Nat → ClassId} {a : Nat → Nat} {S : HS} {R : va_W} {f : Nat → Int32} : (hw k a S ++ R).set 18 (a 18, .inl (k 0, 40, .inl f)) = hw k a (sf S 13 f) ++ R := rfl
theorem hwq_1 {k : Nat → ClassId} {a : Nat → Nat} {S : HS} {R : va_W} {f f2 : Nat → Int32} (h : f = f2) : (hw k a S ++ R).set 19 (a 19, .inl (k 0, 6, .inl f)) = hw k a (sf S 1 f2) ++ R := by subst h; rfl
theorem hwq_2 {k : Nat → ClassId} {a : Nat → Nat} {S : HS} {R : va_W} {f f2 : Nat → Int32} (h : f = f2) : (hw k a S ++ R).set 20 (a 20, .inl (k 0, 6, .inl f)) = hw k a (sf S 2 f2) ++ R := by subst h; rfl
theorem hwq_3 {k : Nat → ClassId} {a : Nat → Nat} {S : HS} {R : va_W} {f f2 : Nat → Int32} (h : f = f2) : (hw k a S ++ R).set 21 (a 21, .inl (k 0, 40, .inl f)) = hw k a (sf S 3 f2) ++ R := by subst h; rfl
theorem hwq_4 {k : Nat → ClassId} {a : Nat → Nat} {S : HS} {R : va_W} {f f2 : Nat → Int32} (h : f = f2) : (hw k a S ++ R).set 22 (a 22, .inl (k 0, 40, .inl f)) = hw k a (sf S 4 f2) ++ R := by subst h; rfl
theorem hwq_5 {k : Nat → ClassId} {a : Nat → Nat} {S : HS} {R : va_W} {f f2 : Nat → Int32} (h : f = f2) : (hw k a S ++ R).set 23 (a 23, .inl (k 0, 40, .inl f)) = hw k a (sf S 5 f2) ++ R := by subst h; rfl
theorem hwq_6 {k : Nat → ClassId} {a : Nat → Nat} {S : HS} {R : va_W} {f f2 : Nat → Int32} (h : f = f2) : (hw k a S ++ R).set 24 (a 24, .inl (k 0, 40, .inl f)) = hw k a (sf S 6 f2) ++ R := by subst h; rfl
theorem hwq_7 {k : Nat → ClassId} {a : Nat → Nat} {S : HS} {R : va_W} {f f2 : Nat → Int32} (h : f = f2) : (hw k a S ++ R).set 25 (a 25, .inl (k 0, 40, .inl f)) = hw k a (sf S 7 f2) ++ R := by subst h; rfl
theorem hwq_8 {k : Nat → ClassId} {a : Nat → Nat} {S : HS} {R : va_W} {f f2 : Nat → Int32} (h : f = f2) : (hw k a S ++ R).set 26 (a 26, .inl (k 0, 40, .inl f)) = hw k a (sf S 8 f2) ++ R := by subst h; rfl
theorem hwq_9 {k : Nat → ClassId} {a : Nat → Nat} {S : HS} {R : va_W} {f f2 : Nat → Int32} (h : f = f2) : (hw k a S ++ R).set 27 (a 27, .inl (k 0, 40, .inl f)) = hw k a (sf S 9 f2) ++ R := by subst h; rfl
theorem hwq_10 {k : Nat → ClassId} {a : Nat → Nat} {S : HS} {R : va_W} {f f2 : Nat → Int32} (h : f = f2) : (hw k a S ++ R).set 28 (a 28, .inl (k 0, 40, .inl f)) = hw k a (sf S 10 f2) ++ R := by subst h; rfl
theorem hwq_11 {k : Nat → ClassId} {a : Nat → Nat} {S : HS} {R : va_W} {f f2 : Nat → Int32} (h : f = f2) : (hw k a S ++ R).set 16 (a 16, .inl (k 0, 4, .inl f)) = hw k a (sf S 11 f2) ++ R := by subst h; rfl
theorem hwq_12 {k : Nat → ClassId} {a : Nat → Nat} {S : HS} {R : va_W} {f f2 : Nat → Int32} (h : f = f2) : (hw k a S ++ R).set 17 (a 17, .inl (k 0, 12, .inl f)) = hw k a (sf S 12 f2) ++ R := by subst h; rfl
theorem hwq_13 {k : Nat → ClassId} {a : Nat → Nat} {S : HS} {R : va_W} {f f2 : Nat → Int32} (h : f = f2) : (hw k a S ++ R).set 18 (a 18, .inl (k 0, 40, .inl f)) = hw k a (sf S 13 f2) ++ R := by subst h; rfl
theorem hwp_00 {k : Nat → ClassId} {a : Nat → Nat} {S : HS} {R : va_W} {v : Int32} {f : Nat → Int32} (h : upd (S 0) 0 v = f) : (hw k a S ++ R).set 0 (a 0, .inr (2, ([.int (S 0 0), .int (S 0 1), .int (S 0 2), .ref (a 1), .ref (a 2), .ref (a 3), .ref (a 4), .ref (a 5)] : List Value).set 0 (.int v))) = hw k a (sf S 0 f) ++ R := by subst h; rfl
theorem hwp_01 {k : Nat → ClassId} {a : Nat → Nat} {S : HS} {R : va_W} {v : Int32} {f : Nat → Int32} (h : upd (S 0) 1 v = f) : (hw k a S ++ R).set 0 (a 0, .inr (2, ([.int (S 0 0), .int (S 0 1), .int (S 0 2), .ref (a 1), .ref (a 2), .ref (a 3), .ref (a 4), .ref (a 5)] : List Value).set 1 (.int v))) = hw k a (sf S 0 f) ++ R := by subst h; rfl
theorem hwp_02 {k : Nat → ClassId} {a : Nat → Nat} {S : HS} {R : va_W} {v : Int32} {f : Nat → Int32} (h : upd (S 0) 2 v = f) : (hw k a S ++ R).set 0 (a 0, .inr (2, ([.int (S 0 0), .int (S 0 1), .int (S 0 2), .ref (a 1), .ref (a 2), .ref (a 3), .ref (a 4), .ref (a 5)] : List Value).set 2 (.int v))) = hw k a (sf S 0 f) ++ R := by subst h; rfl
theorem hwp_03 {k : Nat → ClassId} {a : Nat → Nat} {S : HS} {R : va_W} {v : Int32} {f : Nat → Int32} (h : upd (S 0) 3 v = f) : (hw k a S ++ R).set 1 (a 1, .inr (1, ([.int (S 0 3), .ref (a 6), .ref (a 7)] : List Value).set 0 (.int v))) = hw k a (sf S 0 f) ++ R := by subst h; rfl
theorem hwp_04 {k : Nat → ClassId} {a : Nat → Nat} {S : HS} {R : va_W} {v : Int32} {f : Nat → Int32} (h : upd (S 0) 4 v = f) : (hw k a S ++ R).set 2 (a 2, .inr (0, ([.int (S 0 4), .ref (a 8), .ref (a 9), .ref (a 10), .ref (a 11), .ref (a 12), .ref (a 13), .ref (a 14), .ref (a 15)] : List Value).set 0 (.int v))) = hw k a (sf S 0 f) ++ R := by subst h; rfl
theorem hw_same {k : Nat → ClassId} {a : Nat → Nat} {S S2 : HS} {R : va_W} : (hw k a S2 ++ R).map Prod.fst = (hw k a S ++ R).map Prod.fst := rfl
/-- the class's own object, behind its hall -/
abbrev xo (k : Nat → ClassId) (a b : Nat → Nat) (x : Nat) (S : HS) (R : va_W) : va_W := hw k a S ++ ((x, .inr (4, [.ref (a 0), .ref (b 0)])) :: R)
theorem xo_29 {k : Nat → ClassId} {a b : Nat → Nat} {x : Nat} {S : HS} {R : va_W} : (hw k a S ++ ((x, .inr (4, [.ref (a 0), .ref (b 0)])) :: R))[29]? = some (x, .inr (4, [.ref (a 0), .ref (b 0)])) := rfl

/-- a row object at q0 and its cells at q1, when the cells are written -/
theorem rs_n {ws : va_W} {q0 q1 r a : Nat} {o : Nat × List Value} {x y : ClassId × vp_A} (he : ws[q0]? = some (r, .inr o)) (ha : ws[q1]? = some (a, .inl x)) : (ws.set q1 (a, .inl y))[q0]? = some (r, .inr o) := by
  by_cases hq : q0 = q1
  · subst hq
    rw [he] at ha
    exact absurd (congrArg (fun z : Option (Nat × va_E) => z.map (fun u => u.2.isLeft)) ha) (by simp)
  · rw [List.getElem?_set_ne (Ne.symm hq)]
    exact he
theorem rs_a {ws : va_W} {q1 a : Nat} {e e2 : va_E} (ha : ws[q1]? = some (a, e)) : (ws.set q1 (a, e2))[q1]? = some (a, e2) := List.getElem?_set_self (List.getElem?_eq_some_iff.mp ha).1
theorem rs_s {ws : va_W} {q1 : Nat} {x y : Nat × va_E} : (ws.set q1 x).set q1 y = ws.set q1 y := List.set_set ..
/-- a world's cells in another order -/
theorem vaP_mem {D : va_G} {cl : List vw_C} {w w2 : va_W} {H : Heap} (h : va_P D cl w H) (hs : ∀ q ∈ w2, q ∈ w) : va_P D cl w2 H := by
  intro i q hq
  obtain ⟨j, hj⟩ := List.getElem?_of_mem (hs q (List.mem_of_getElem? hq))
  exact h j q hj
theorem vaD_iff {A : Nat → Prop} {w : va_W} : va_D A w ↔ (w.map Prod.fst).Nodup ∧ ∀ q ∈ w, A q.1 := by
  constructor
  · intro h
    refine ⟨?_, fun q hq => ?_⟩
    · rw [List.Nodup, List.pairwise_iff_getElem]
      intro i j hi hj hij e
      rw [List.length_map] at hi hj
      rw [List.getElem_map, List.getElem_map] at e
      exact absurd (h.1 i j _ _ (List.getElem?_eq_getElem hi) (List.getElem?_eq_getElem hj) e) (by omega)
    · obtain ⟨j, hj⟩ := List.getElem?_of_mem hq
      exact h.2 j q hj
  · intro h
    refine ⟨fun i j x y hi hj e => ?_, fun i q hq => h.2 q (List.mem_of_getElem? hq)⟩
    have h1 := h.1
    rw [List.Nodup, List.pairwise_iff_getElem] at h1
    obtain ⟨li, ei⟩ := List.getElem?_eq_some_iff.mp hi
    obtain ⟨lj, ej⟩ := List.getElem?_eq_some_iff.mp hj
    rcases Nat.lt_trichotomy i j with q | q | q
    · exact absurd (by rw [List.getElem_map, List.getElem_map, ei, ej]; exact e) (h1 i j (by rw [List.length_map]; exact li) (by rw [List.length_map]; exact lj) q)
    · exact q
    · exact absurd (by rw [List.getElem_map, List.getElem_map, ei, ej]; exact e.symm) (h1 j i (by rw [List.length_map]; exact lj) (by rw [List.length_map]; exact li) q)
theorem vaD_perm {A : Nat → Prop} {w w2 : va_W} (h : va_D A w) (hp : w2.Perm w) : va_D A w2 := by
  rw [vaD_iff] at h ⊢
  exact ⟨(hp.map Prod.fst).nodup_iff.mpr h.1, fun q hq => h.2 q (hp.mem_iff.mp hq)⟩
theorem vaP_perm {D : va_G} {cl : List vw_C} {w w2 : va_W} {H : Heap} (h : va_P D cl w H) (hp : w2.Perm w) : va_P D cl w2 H := vaP_mem h (fun q hq => hp.mem_iff.mp hq)
theorem perm3 (A B C R : va_W) : (A ++ (C ++ (B ++ R))).Perm (A ++ (B ++ (C ++ R))) := List.Perm.append_left A (List.perm_append_comm_assoc C B R)
theorem rs_0 {ws : va_W} {q1 : Nat} {x : Nat × va_E} (h : ws[q1]? = some x) : ws.set q1 x = ws := by
  apply List.ext_getElem?
  intro j
  by_cases hj : j = q1
  · subst hj
    rw [List.getElem?_set_self (List.getElem?_eq_some_iff.mp h).1, h]
  · rw [List.getElem?_set_ne (Ne.symm hj)]

