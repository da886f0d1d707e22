/-! words of the minutes that would be, of the mean, and of answers that may draw -/
theorem sf_self (S : HS) (i : Nat) : sf S i (S i) = S := by
  funext j
  unfold sf
  by_cases h : j = i
  · rw [if_pos h, h]
  · rw [if_neg h]
theorem mIn_1 {x : Int32} (h : mIn x 1 60) : x = nI (ix x) ∧ ix x ≤ 60 := by
  obtain ⟨h1, h2⟩ := h
  exact mIn_k (n := 60) (by decide) ⟨fun q => h1 (Int32.lt_of_lt_of_le q (by decide)), h2⟩
noncomputable def unt (P : Nat → Prop) : Nat → Nat
  | 0 => 0
  | N + 1 => sel (unt P N = N ∧ ¬ P N) (N + 1) (unt P N)
theorem unt_le (P : Nat → Prop) : ∀ N, unt P N ≤ N
  | 0 => Nat.le_refl _
  | N + 1 => by
    unfold unt
    by_cases h : unt P N = N ∧ ¬ P N
    · rw [sel_t h]; exact Nat.le_refl _
    · rw [sel_f h]; exact Nat.le_succ_of_le (unt_le P N)
theorem unt_end {P : Nat → Prop} : ∀ {N : Nat}, (∀ j, j < N → ¬ P j) → unt P N = N
  | 0, _ => rfl
  | N + 1, h => by
    unfold unt
    rw [sel_t ⟨unt_end (fun j hj => h j (Nat.lt_succ_of_lt hj)), h N (Nat.lt_succ_self N)⟩]
theorem unt_at {P : Nat → Prop} {i : Nat} (h : ∀ j, j < i → ¬ P j) (hp : P i) : ∀ {N : Nat}, i < N → unt P N = i
  | 0, hi => absurd hi (Nat.not_lt_zero i)
  | N + 1, hi => by
    unfold unt
    rcases Nat.lt_or_ge i N with q | q
    · rw [unt_at h hp q, sel_f (fun z => absurd z.1 (by omega))]
    · have e : i = N := by omega
      subst e
      rw [sel_f (fun z => z.2 hp), unt_end h]
theorem unt_cong {P Q : Nat → Prop} : ∀ {N : Nat}, (∀ j, j < N → (P j ↔ Q j)) → unt P N = unt Q N
  | 0, _ => rfl
  | N + 1, h => by
    unfold unt
    rw [unt_cong (fun j hj => h j (Nat.lt_succ_of_lt hj)), propext (h N (Nat.lt_succ_self N))]
abbrev mUnP (G U : HS) (b : Nat) (i : Nat) : Prop := mUn G U i 1 b = 2
noncomputable def mUnN (G U : HS) (b : Nat) : Nat := unt (mUnP G U b) 121
noncomputable def mUnA (G U : HS) (b : Nat) : Int32 := sel (mUnN G U b = 121) (-1) (nI (mUnN G U b))
theorem mUnA_at {G U : HS} {b i : Nat} (h : ∀ j, j < i → ¬ mUnP G U b j) (hp : mUnP G U b i) (hi : i < 121) : mUnN G U b = i ∧ mUnA G U b = nI i := by
  have e : mUnN G U b = i := unt_at h hp hi
  refine ⟨e, ?_⟩
  unfold mUnA
  rw [e, sel_f (by omega)]
theorem mUnA_end {G U : HS} {b : Nat} (h : ∀ j, j < 121 → ¬ mUnP G U b j) : mUnN G U b = 121 ∧ mUnA G U b = -1 := by
  have e : mUnN G U b = 121 := unt_end h
  refine ⟨e, ?_⟩
  unfold mUnA
  rw [e, sel_t rfl]
theorem nI_ge120 {i : Nat} (h : i < 121) : ¬ (120 : Int32) < nI i := by
  rw [show (120 : Int32) = nI 120 from rfl, nI_ltI (by decide) (by omega)]
  omega
theorem mBest_t {G T : HS} {f N n i : Nat} (h : (mBest G T f N n i).2 < nI (mBeh (mSetC G f i) T f N n)) : mBest G T f N n (i + 1) = (nI i, nI (mBeh (mSetC G f i) T f N n)) := sel_t h _ _
theorem mBest_f {G T : HS} {f N n i : Nat} (h : ¬ (mBest G T f N n i).2 < nI (mBeh (mSetC G f i) T f N n)) : mBest G T f N n (i + 1) = mBest G T f N n i := sel_f h _ _
abbrev DM (l : Launch) (y : MethodName) (cc : ByteArray) (n : Nat) (rm : Room) (D : va_G) (k : Nat → ClassId) (w : va_W) (av : List Value) (z : UInt64) (w' : va_W) : Prop := MetD lw_cs l y (ws_ y cc n (some .double)) rm (va_Pc av (mP D k w)) (va_Qd (fun (r : UInt64) (_ : Unit) => alike64 r z = true) (fun _ t => va_P D vwCl w' t.heap) (va_in w)) 0 0 (va_in w)
theorem DM_of {l : Launch} {y : MethodName} {cc : ByteArray} {n : Nat} {rm : Room} {D : va_G} {k : Nat → ClassId} {w w' : va_W} {av : List Value} {z : UInt64} (hy : plainName y.cls = true) (hlen : (lg_sl av).length ≤ n)
    (body : ∀ (p : Program) (e : Env) (s : State) (m : MethodId) (below : List Frame) (meth : Method) (c : Code), CallFix p m c cc n s av.toArray lw_all y.cls → meth.sig.returnType = some .double → meth.locks = false → meth.name = y.name → eK D k s → va_P D vwCl w s.heap → va_D (va_in w) w → va_S (va_in w) s.heap s.heap [] → ∀ ls, lv_has ls n (lv_args 0 av) →
      W p l e rm s m av.toArray below meth c s.heap [] 0 0 (MQD lw_cs below (va_Qd (fun (r : UInt64) (_ : Unit) => alike64 r z = true) (fun _ t => va_P D vwCl w' t.heap) (va_in w)) av.toArray s 0 0 (va_in w)) (F0 m 0 ls [])) : DM l y cc n rm D k w av z w' := by
  refine MetD.ofW (cc := cc) (maxL := n) (ret := some .double) hy rfl ?_
  intro p e s m args below meth c s₁ B hml hv hd0
  obtain ⟨rfl, hE, hP, hD⟩ := hv
  have hts := atoms_spec (ws := ws_ y cc n (some .double)) B.pre
  rw [lg_entry_eq]
  refine W.base ?_
  exact body p e s m below meth c ⟨B.exec, B.bytes, hml, findClass_of_methodNamed B.named, fun w h => hts w (List.mem_cons_of_mem _ h)⟩ B.returns B.notSynchronized (name_of_methodNamed B.named B.method).1 hE hP (va_in_D hD) va_S.rf _ (lv_entry av hlen)
noncomputable def mMean (f : Nat → Int32) (n : Nat) : UInt64 := sel (nI n = 0) FP.dconst0 (FP.ddiv (FP.i2d (sm f n)) (FP.i2d (nI n)))
