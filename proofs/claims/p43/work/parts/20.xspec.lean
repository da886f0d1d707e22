/-! what the class's halls do, in pure words. Rows of S: 0 minutesGone, strength, lineCount, flights' count, bags' count; 1 flights' chutes, 2 gone; bags: 3 flight, 4 size, 5 smudge, 6 where, 7 chute, 8 read, 9 misses, 10 file; 11 rooms, 12 belt, 13 line -/
abbrev xGone (S : HS) (f : Int32) : Prop := rd 6 (S 2) f = 1
abbrev xOwn (S : HS) (b : Int32) : Prop := rd 40 (S 6) b = 2 ∧ rd 40 (S 7) b = rd 6 (S 1) (rd 40 (S 3) b)
abbrev xAst (S : HS) (b : Int32) : Prop := rd 40 (S 6) b = 2 ∧ (¬ xOwn S b ∨ xGone S (rd 40 (S 3) b))
abbrev xRdy (S : HS) (b : Int32) : Prop := rd 40 (S 6) b = 5 ∨ (xOwn S b ∧ ¬ xGone S (rd 40 (S 3) b))
abbrev xRoom (S : HS) (c : Int32) : Prop := nI (ct (fun j_ => S 7 j_ = c) 40) < rd 4 (S 11) c
noncomputable def xAddFl (S : HS) : HS := sf S 0 (upd (S 0) 3 (S 0 3 + 1))
noncomputable def xAddBg (S : HS) (f z u : Int32) : HS := sf (sf (sf (sf S 0 (upd (S 0) 4 (S 0 4 + 1))) 3 (wr 40 (S 3) (S 0 4) f)) 4 (wr 40 (S 4) (S 0 4) z)) 5 (wr 40 (S 5) (S 0 4) u)
noncomputable def xClose (S : HS) (b : Int32) : HS := sel (rd 40 (S 10) b = 1) (sf S 10 (wr 40 (S 10) b 2)) S
noncomputable def xRenew (S : HS) (b f : Int32) : HS := xClose (sf (sf (sf S 3 (wr 40 (S 3) b f)) 8 (wr 40 (S 8) b (-1))) 9 (wr 40 (S 9) b 0)) b
noncomputable def xPut (S : HS) (b c : Int32) : HS := sf (sf S 6 (wr 40 (S 6) b 2)) 7 (wr 40 (S 7) b c)
noncomputable def xOff (S : HS) (b w : Int32) : HS := sf (sf S 6 (wr 40 (S 6) b w)) 7 (wr 40 (S 7) b (-1))
noncomputable def xTakeIn (S : HS) (b : Int32) : HS := sel (rd 40 (S 4) b ≤ 7) (sf (sf (sf S 6 (wr 40 (S 6) b 0)) 13 (wr 40 (S 13) (S 0 2) b)) 0 (upd (S 0) 2 (S 0 2 + 1))) (sf S 6 (wr 40 (S 6) b 4))
noncomputable def xChg (S : HS) (f c : Int32) : HS := sf S 1 (wr 6 (S 1) f c)
noncomputable def xChgN (S : HS) (f c : Int32) (n : Nat) : Nat := ct (fun i => S 3 i = f ∧ xOwn S (nI i) ∧ ¬ S 7 i = c) n
noncomputable def xMisN (S : HS) (c : Int32) (n : Nat) : Nat := ct (fun i => S 7 i = c ∧ xAst S (nI i)) n
noncomputable def xRdyN (S : HS) (f : Int32) (n : Nat) : Nat := ct (fun i => S 3 i = f ∧ xRdy S (nI i)) n
noncomputable def xClS (c : Int32) (i : Nat) (q : Nat × HS) : Nat × HS := sel (q.2 7 i = c ∧ xAst q.2 (nI i)) (q.1 + 1, xClose (xOff q.2 (nI i) 3) (nI i)) q
noncomputable def xCl (S : HS) (c : Int32) : Nat → Nat × HS
  | 0 => (0, S)
  | i + 1 => xClS c i (xCl S c i)
noncomputable def xLvS (f : Int32) (i : Nat) (q : Nat × HS) : Nat × HS := sel (q.2 3 i = f) (sel (xOwn q.2 (nI i)) (q.1 + 1, xOff q.2 (nI i) 5) (q.1, sf q.2 10 (upd (q.2 10) i 1))) q
noncomputable def xLv (S : HS) (f : Int32) : Nat → Nat × HS
  | 0 => (0, S)
  | i + 1 => xLvS f i (xLv S f i)
noncomputable def xLeave (S : HS) (f : Int32) (n : Nat) : HS := sf (xLv S f n).2 2 (wr 6 ((xLv S f n).2 2) f 1)
noncomputable def xMiss (S : HS) (b : Int32) : HS := sel (rd 40 (S 9) b + 1 < 3) (sf S 9 (wr 40 (S 9) b (rd 40 (S 9) b + 1))) (sf (sf (sf S 9 (wr 40 (S 9) b (rd 40 (S 9) b + 1))) 12 (upd (S 12) 2 (-1))) 6 (wr 40 (S 6) b 3))
noncomputable def xTag (S : HS) : HS := sel (S 12 2 = -1) S (sel (rd 40 (S 8) (S 12 2) = -1) (sel (¬ S 0 1 < rd 40 (S 5) (S 12 2) ∧ ¬ rd 6 (S 1) (rd 40 (S 3) (S 12 2)) = -1) (sf S 8 (wr 40 (S 8) (S 12 2) (rd 6 (S 1) (rd 40 (S 3) (S 12 2))))) (xMiss S (S 12 2))) S)
noncomputable def xFlS (i : Nat) (q : Nat × HS) : Nat × HS := sel (¬ q.2 12 (4 + 2 * i) = -1 ∧ rd 40 (q.2 8) (q.2 12 (4 + 2 * i)) = nI i ∧ xRoom q.2 (nI i)) (q.1 + 1, xPut (sf q.2 12 (upd (q.2 12) (4 + 2 * i) (-1))) (q.2 12 (4 + 2 * i)) (nI i)) q
noncomputable def xFl (S : HS) : Nat → Nat × HS
  | 0 => (0, S)
  | i + 1 => xFlS i (xFl S i)
noncomputable def xFeed (S : HS) : HS := sel (S 12 0 = -1 ∧ 0 < S 0 2) (sf (sf (sf (sf S 13 (xfront 40 (S 13))) 0 (upd (S 0) 2 (S 0 2 - 1))) 12 (upd (S 12) 0 (S 13 0))) 6 (wr 40 (S 6) (S 13 0) 1)) S
noncomputable def xTick (S : HS) : HS := sf S 0 (upd (S 0) 0 (S 0 0 + 1))
noncomputable def xTrn (S : HS) : HS := sf S 12 (xturn 12 (S 12))
noncomputable def xMin (S : HS) : Nat × HS := ((xFl (xTag (xTrn S)) 4).1, xTick (xFeed (xFl (xTag (xTrn S)) 4).2))
noncomputable def xGo (S : HS) : Nat → Int32 × HS
  | 0 => (0, S)
  | i + 1 => ((xGo S i).1 + nI (xMin (xGo S i).2).1, (xMin (xGo S i).2).2)
noncomputable def xFlTake (T S : HS) : HS := sf (sf (sf T 0 (upd (T 0) 3 (S 0 3))) 1 (S 1)) 2 (S 2)
noncomputable def xBgTake (T S : HS) : HS := sf (sf (sf (sf (sf (sf (sf (sf (sf T 0 (upd (T 0) 4 (S 0 4))) 3 (S 3)) 4 (S 4)) 5 (S 5)) 6 (S 6)) 7 (S 7)) 8 (S 8)) 9 (S 9)) 10 (S 10)
theorem xClose_0 (S : HS) (b : Int32) : xClose S b 0 = S 0 := by
  unfold xClose
  by_cases h : rd 40 (S 10) b = 1
  · rw [sel_t h]; rfl
  · rw [sel_f h]
theorem xCl_0 (S : HS) (c : Int32) : ∀ i, (xCl S c i).2 0 = S 0
  | 0 => rfl
  | i + 1 => by
    show (xClS c i (xCl S c i)).2 0 = S 0
    unfold xClS
    by_cases h : (xCl S c i).2 7 i = c ∧ xAst (xCl S c i).2 (nI i)
    · rw [sel_t h]
      exact (xClose_0 _ _).trans (xCl_0 S c i)
    · rw [sel_f h]
      exact xCl_0 S c i
theorem xLv_0 (S : HS) (f : Int32) : ∀ i, (xLv S f i).2 0 = S 0
  | 0 => rfl
  | i + 1 => by
    show (xLvS f i (xLv S f i)).2 0 = S 0
    unfold xLvS
    by_cases h : (xLv S f i).2 3 i = f
    · rw [sel_t h]
      by_cases h2 : xOwn (xLv S f i).2 (nI i)
      · rw [sel_t h2]
        exact xLv_0 S f i
      · rw [sel_f h2]
        exact xLv_0 S f i
    · rw [sel_f h]
      exact xLv_0 S f i
theorem place_n (i : Nat) : (4 : Int32) + 2 * nI i = nI (4 + 2 * i) := by
  rw [show (2 : Int32) = nI 2 from rfl, show (4 : Int32) = nI 4 from rfl, pk_mul, nI_add]
