/-! the hand's questions: where a place's bag is, how many .. -/
abbrev onP (T : HS) (q : Int32) (i : Nat) : Prop := T 1 i = 1 ∧ T 2 i = q
noncomputable def onA (T : HS) (n : Nat) (q : Int32) : Int32 := sel (unt (onP T q) n = n) (-1) (nI (unt (onP T q) n))
theorem onA_at {T : HS} {n i : Nat} {q : Int32} (h : ∀ j, j < i → ¬ onP T q j) (hp : onP T q i) (hi : i < n) : onA T n q = nI i := by
  unfold onA
  rw [unt_at h hp hi, sel_f (by omega)]
theorem onA_end {T : HS} {n : Nat} {q : Int32} (h : ∀ j, j < n → ¬ onP T q j) : onA T n q = -1 := by
  unfold onA
  rw [unt_end h, sel_t rfl]
theorem no_step {P : Nat → Prop} {i : Nat} (h : ∀ j, j < i → ¬ P j) (hp : ¬ P i) : ∀ j, j < i + 1 → ¬ P j := fun j hj => by
  rcases Nat.lt_or_ge j i with q | q
  · exact h j q
  · rw [show j = i by omega]; exact hp
theorem onA_eq {S T : HS} {n : Nat} (hb : RB S T n) {j : Nat} (hj : j < 12) : onA T n (nI j) = T 5 j := by
  have h40 := hb.n40
  by_cases h : T 5 j = -1
  · rw [h]
    refine onA_end (fun b h1 h2 => ?_)
    obtain ⟨j2, q1, q2, q3⟩ := hb.bl2 b h1 h2.1
    have e : j2 = j := nI_inj (by omega) (by omega) (q2.symm.trans h2.2)
    subst e
    exact nI_neg (by omega) (q3.symm.trans h)
  · obtain ⟨b, q1, q2, q3, q4⟩ := hb.bl1 j hj h
    rw [q2]
    refine onA_at (fun b2 h1 h2 => ?_) ⟨q3, q4⟩ q1
    obtain ⟨j2, p1, p2, p3⟩ := hb.bl2 b2 (by omega) h2.1
    have e : j2 = j := nI_inj (by omega) (by omega) (p2.symm.trans h2.2)
    subst e
    have := nI_inj (by omega) (by omega) (p3.symm.trans q2)
    omega
abbrev inP (T : HS) (c : Int32) (i : Nat) : Prop := T 1 i = 2 ∧ T 2 i = c
noncomputable def inN (T : HS) (c : Int32) (n : Nat) : Nat := ct (inP T c) n
abbrev sMis (G T : HS) (f b : Nat) : Prop := T 1 b = 2 ∧ (G 2 f = 1 ∨ ¬ G 1 f = T 2 b)
set_option maxHeartbeats 4000000 in
set_option maxRecDepth 100000 in
/-- the first bag at a place -/
theorem metX5_on (l : Launch) {D : va_G} {k : Nat → ClassId} {a tr o fa ba : Nat → Nat} {x : Nat} {S U : HS} {R : va_W} (G T : HS) {n nf L : Nat} (hn : n ≤ 40) (hnf : nf ≤ 6) (q : Int32) : PM l yX5_on cX5_on 3 (some FieldType.int) rmX5_on D k (LW k a tr o fa ba x S U G T n nf L R) [.ref (o 0), .int q] (some (.int (onA T n q))) := by
  refine PM_of rfl (Nat.le_of_ble_eq_true rfl) ?_
  intro p e s m below meth c hC hr hlk hin hE hP ls hl
  have hC : CallFix p m c cX5_on 3 s _ lw_all RX5 := hC
  have hx := hC.1
  have hb := hC.2.1
  have hown : s.vm.findClass RX5 = some m.cls := hC.2.2.2.1
  have hts := hC.2.2.2.2
  have hl : lv_has ls 3 [(0, .ref (o 0)), (1, .int q)] := hl
  refine lv_iconst (v := 0) hx hb dX5_on_0 (by decide) ?_
  refine lv_istore_n (lv' := [(2, .int 0), (0, .ref (o 0)), (1, .int q)]) hx hb dX5_on_1 rfl hl (by decide) rfl (fun ls hl => ?_)
  refine w_for (N := n) (fun i => ∀ j, j < i → ¬ onP T q j) (fun i => [(0, .ref (o 0)), (1, .int q), (2, .int (nI i))]) (fun ls hI hl => ?_) (fun i hi hI ih ls hl => ?_) 0 (Nat.zero_le _) (fun j hj => absurd hj (Nat.not_lt_zero j)) (lv_sub hl [1, 2, 0] rfl)
  · have hl : lv_has ls 3 [(0, .ref (o 0)), (1, .int q), (2, .int (nI n))] := hl
    have hI : ∀ j, j < n → ¬ onP T q j := hI
    refine lv_iload_n hx hb dX5_on_2 rfl (lv_at hl 2 rfl) ?_
    refine lv_aload_n hx hb dX5_on_3 rfl (lv_at hl 0 rfl) ?_
    refine va_get (D := D) (ci := 5) (v := .ref (o 3)) (C := RX5) (T := TX5) (N := 6) hx hb hts tu_5 hown hE.1 hP 59 lw_59 rfl 4 (by decide) (hts _ tw_739) (fun _ h9 => h9) rfl dX5_on_4 ?_
    refine k_olen hx hb hE hP 62 lw_62 dX5_on_7 ?_
    refine lv_icmp_ge (tgt := 43) hx hb dX5_on_8 (by decide) (fun c_1 => ?_) (fun c_ => absurd (nI_le (Nat.le_refl n) (Nat.lt_of_le_of_lt hn (by decide))) c_)
    refine lv_iconst (v := (-1)) hx hb dX5_on_43 (by decide) ?_
    exact p_iret hx hb hr hlk dX5_on_44 (onA_end hI)
  · have hl : lv_has ls 3 [(0, .ref (o 0)), (1, .int q), (2, .int (nI i))] := hl
    have hI : ∀ j, j < i → ¬ onP T q j := hI
    refine lv_iload_n hx hb dX5_on_2 rfl (lv_at hl 2 rfl) ?_
    refine lv_aload_n hx hb dX5_on_3 rfl (lv_at hl 0 rfl) ?_
    refine va_get (D := D) (ci := 5) (v := .ref (o 3)) (C := RX5) (T := TX5) (N := 6) hx hb hts tu_5 hown hE.1 hP 59 lw_59 rfl 4 (by decide) (hts _ tw_739) (fun _ h9 => h9) rfl dX5_on_4 ?_
    refine k_olen hx hb hE hP 62 lw_62 dX5_on_7 ?_
    refine lv_icmp_ge (tgt := 43) hx hb dX5_on_8 (by decide) (fun c_ => absurd c_ (nI_ge hi (Nat.lt_of_le_of_lt hn (by decide)))) (fun c_2 => ?_)
    refine lv_aload_n hx hb dX5_on_11 rfl (lv_at hl 0 rfl) ?_
    refine va_get (D := D) (ci := 5) (v := .ref (o 3)) (C := RX5) (T := TX5) (N := 6) hx hb hts tu_5 hown hE.1 hP 59 lw_59 rfl 4 (by decide) (hts _ tw_739) (fun _ h9 => h9) rfl dX5_on_12 ?_
    refine lv_iload_n hx hb dX5_on_15 rfl (lv_at hl 2 rfl) ?_
    refine k_aald (j := i) hx hb hE hP 62 lw_62 hi (Nat.lt_of_le_of_lt hn (by decide)) dX5_on_16 ?_
    refine lv_iconst (v := 3) hx hb dX5_on_17 (by decide) ?_
    refine k_iald (j := 3) hx hb hE hP (64 + nf + i) (lw_b hi) (by decide) (by decide) dX5_on_18 ?_
    refine w_top (show bgR G T i 3 = T 1 i from rfl) ?_
    refine lv_iconst (v := 1) hx hb dX5_on_19 (by decide) ?_
    refine lv_icmp_ne (tgt := 37) hx hb dX5_on_20 (by decide) (fun c_3 => ?_) (fun c_3 => ?_)
    · refine lv_iinc (v := nI (i + 1)) (lv' := [(2, .int (nI (i + 1))), (0, .ref (o 0)), (1, .int q)]) hx hb dX5_on_37 hl (k := 2) rfl (iinc1 _) (by decide) rfl (fun ls hl => ?_)
      refine lv_goto (tgt := 2) hx hb dX5_on_40 (by decide) ?_
      exact ih ls (no_step hI (show ¬ onP T q i from (fun h_ => c_3 h_.1))) (lv_sub hl [1, 2, 0] rfl)
    · refine lv_aload_n hx hb dX5_on_23 rfl (lv_at hl 0 rfl) ?_
      refine va_get (D := D) (ci := 5) (v := .ref (o 3)) (C := RX5) (T := TX5) (N := 6) hx hb hts tu_5 hown hE.1 hP 59 lw_59 rfl 4 (by decide) (hts _ tw_739) (fun _ h9 => h9) rfl dX5_on_24 ?_
      refine lv_iload_n hx hb dX5_on_27 rfl (lv_at hl 2 rfl) ?_
      refine k_aald (j := i) hx hb hE hP 62 lw_62 hi (Nat.lt_of_le_of_lt hn (by decide)) dX5_on_28 ?_
      refine lv_iconst (v := 4) hx hb dX5_on_29 (by decide) ?_
      refine k_iald (j := 4) hx hb hE hP (64 + nf + i) (lw_b hi) (by decide) (by decide) dX5_on_30 ?_
      refine w_top (show bgR G T i 4 = T 2 i from rfl) ?_
      refine lv_iload_n hx hb dX5_on_31 rfl (lv_at hl 1 rfl) ?_
      refine lv_icmp_ne (tgt := 37) hx hb dX5_on_32 (by decide) (fun c_4 => ?_) (fun c_4 => ?_)
      · refine lv_iinc (v := nI (i + 1)) (lv' := [(2, .int (nI (i + 1))), (0, .ref (o 0)), (1, .int q)]) hx hb dX5_on_37 hl (k := 2) rfl (iinc1 _) (by decide) rfl (fun ls hl => ?_)
        refine lv_goto (tgt := 2) hx hb dX5_on_40 (by decide) ?_
        exact ih ls (no_step hI (show ¬ onP T q i from (fun h_ => c_4 h_.2))) (lv_sub hl [1, 2, 0] rfl)
      · refine lv_iload_n hx hb dX5_on_35 rfl (lv_at hl 2 rfl) ?_
        exact p_iret hx hb hr hlk dX5_on_36 (onA_at hI ⟨c_3, c_4⟩ hi)

set_option maxHeartbeats 4000000 in
set_option maxRecDepth 100000 in
/-- how many lie in a chute -/
theorem metX5_in (l : Launch) {D : va_G} {k : Nat → ClassId} {a tr o fa ba : Nat → Nat} {x : Nat} {S U : HS} {R : va_W} (G T : HS) {n nf L : Nat} (hn : n ≤ 40) (hnf : nf ≤ 6) (ch : Int32) : PM l yX5_in cX5_in 7 (some FieldType.int) rmX5_in D k (LW k a tr o fa ba x S U G T n nf L R) [.ref (o 0), .int ch] (some (.int (nI (inN T ch n)))) := by
  refine PM_of rfl (Nat.le_of_ble_eq_true rfl) ?_
  intro p e s m below meth c hC hr hlk hin hE hP ls hl
  have hC : CallFix p m c cX5_in 7 s _ lw_all RX5 := hC
  have hx := hC.1
  have hb := hC.2.1
  have hown : s.vm.findClass RX5 = some m.cls := hC.2.2.2.1
  have hts := hC.2.2.2.2
  have hl : lv_has ls 7 [(0, .ref (o 0)), (1, .int ch)] := hl
  refine lv_iconst (v := 0) hx hb dX5_in_0 (by decide) ?_
  refine lv_istore_n (lv' := [(2, .int 0), (0, .ref (o 0)), (1, .int ch)]) hx hb dX5_in_1 rfl hl (by decide) rfl (fun ls hl => ?_)
  refine lv_aload_n hx hb dX5_in_2 rfl (lv_at hl 1 rfl) ?_
  refine va_get (D := D) (ci := 5) (v := .ref (o 3)) (C := RX5) (T := TX5) (N := 6) hx hb hts tu_5 hown hE.1 hP 59 lw_59 rfl 4 (by decide) (hts _ tw_739) (fun _ h9 => h9) rfl dX5_in_3 ?_
  refine lv_astore_n (lv' := [(3, .ref (o 3)), (2, .int 0), (0, .ref (o 0)), (1, .int ch)]) hx hb dX5_in_6 rfl hl (by decide) rfl (fun ls hl => ?_)
  refine lv_aload_n hx hb dX5_in_7 rfl (lv_at hl 0 rfl) ?_
  refine k_olen hx hb hE hP 62 lw_62 dX5_in_8 ?_
  refine lv_istore (lv' := [(4, .int (nI n)), (3, .ref (o 3)), (2, .int 0), (0, .ref (o 0)), (1, .int ch)]) hx hb dX5_in_9 hl (by decide) rfl (fun ls hl => ?_)
  refine lv_iconst (v := 0) hx hb dX5_in_11 (by decide) ?_
  refine lv_istore (lv' := [(5, .int 0), (4, .int (nI n)), (3, .ref (o 3)), (2, .int 0), (0, .ref (o 0)), (1, .int ch)]) hx hb dX5_in_12 hl (by decide) rfl (fun ls hl => ?_)
  refine w_for (N := n) (fun _ => True) (fun i => [(0, .ref (o 0)), (1, .int ch), (2, .int (nI (ct (inP T ch) i))), (3, .ref (o 3)), (4, .int (nI n)), (5, .int (nI i))]) (fun ls hI hl => ?_) (fun i hi hI ih ls hl => ?_) 0 (Nat.zero_le _) trivial (lv_sub hl [4, 5, 3, 2, 1, 0] rfl)
  · have hl : lv_has ls 7 [(0, .ref (o 0)), (1, .int ch), (2, .int (nI (ct (inP T ch) n))), (3, .ref (o 3)), (4, .int (nI n)), (5, .int (nI n))] := hl
    refine lv_iload hx hb dX5_in_14 (lv_at hl 5 rfl) ?_
    refine lv_iload hx hb dX5_in_16 (lv_at hl 4 rfl) ?_
    refine lv_icmp_ge (tgt := 57) hx hb dX5_in_18 (by decide) (fun c_1 => ?_) (fun c_ => absurd (nI_le (Nat.le_refl n) (Nat.lt_of_le_of_lt hn (by decide))) c_)
    refine lv_iload_n hx hb dX5_in_57 rfl (lv_at hl 2 rfl) ?_
    exact p_iret hx hb hr hlk dX5_in_58 (rfl)
  · have hl : lv_has ls 7 [(0, .ref (o 0)), (1, .int ch), (2, .int (nI (ct (inP T ch) i))), (3, .ref (o 3)), (4, .int (nI n)), (5, .int (nI i))] := hl
    refine lv_iload hx hb dX5_in_14 (lv_at hl 5 rfl) ?_
    refine lv_iload hx hb dX5_in_16 (lv_at hl 4 rfl) ?_
    refine lv_icmp_ge (tgt := 57) hx hb dX5_in_18 (by decide) (fun c_ => absurd c_ (nI_ge hi (Nat.lt_of_le_of_lt hn (by decide)))) (fun c_2 => ?_)
    refine lv_aload_n hx hb dX5_in_21 rfl (lv_at hl 3 rfl) ?_
    refine lv_iload hx hb dX5_in_22 (lv_at hl 5 rfl) ?_
    refine k_aald (j := i) hx hb hE hP 62 lw_62 hi (Nat.lt_of_le_of_lt hn (by decide)) dX5_in_24 ?_
    refine lv_astore (lv' := [(6, .ref (ba i)), (0, .ref (o 0)), (1, .int ch), (2, .int (nI (ct (inP T ch) i))), (3, .ref (o 3)), (4, .int (nI n)), (5, .int (nI i))]) hx hb dX5_in_25 hl (by decide) rfl (fun ls hl => ?_)
    refine lv_iload_n hx hb dX5_in_27 rfl (lv_at hl 3 rfl) ?_
    refine lv_aload hx hb dX5_in_28 (lv_at hl 0 rfl) ?_
    refine lv_iconst (v := 3) hx hb dX5_in_30 (by decide) ?_
    refine k_iald (j := 3) hx hb hE hP (64 + nf + i) (lw_b hi) (by decide) (by decide) dX5_in_31 ?_
    refine w_top (show bgR G T i 3 = T 1 i from rfl) ?_
    refine lv_iconst (v := 2) hx hb dX5_in_32 (by decide) ?_
    refine lv_icmp_ne (tgt := 48) hx hb dX5_in_33 (by decide) (fun c_3 => ?_) (fun c_3 => ?_)
    · refine lv_iconst (v := 0) hx hb dX5_in_48 (by decide) ?_
      refine lv_iadd hx hb dX5_in_49 ?_
      refine w_top (Int32.add_zero _) ?_
      refine lv_istore_n (lv' := [(2, .int (nI (ct (inP T ch) i))), (6, .ref (ba i)), (0, .ref (o 0)), (1, .int ch), (3, .ref (o 3)), (4, .int (nI n)), (5, .int (nI i))]) hx hb dX5_in_50 rfl hl (by decide) rfl (fun ls hl => ?_)
      refine lv_iinc (v := nI (i + 1)) (lv' := [(5, .int (nI (i + 1))), (2, .int (nI (ct (inP T ch) i))), (6, .ref (ba i)), (0, .ref (o 0)), (1, .int ch), (3, .ref (o 3)), (4, .int (nI n))]) hx hb dX5_in_51 hl (k := 6) rfl (iinc1 _) (by decide) rfl (fun ls hl => ?_)
      refine lv_goto (tgt := 14) hx hb dX5_in_54 (by decide) ?_
      have e9 : ct (inP T ch) (i + 1) = ct (inP T ch) i := ct_f (p := (inP T ch)) (show ¬ (T 1 i = 2 ∧ T 2 i = ch) from (fun h_ => c_3 h_.1))
      exact ih ls trivial (by show lv_has ls 7 [(0, .ref (o 0)), (1, .int ch), (2, .int (nI (ct (inP T ch) (i + 1)))), (3, .ref (o 3)), (4, .int (nI n)), (5, .int (nI (i + 1)))]; rw [e9]; exact lv_sub hl [3, 4, 1, 5, 6, 0] rfl)
    · refine lv_aload hx hb dX5_in_36 (lv_at hl 0 rfl) ?_
      refine lv_iconst (v := 4) hx hb dX5_in_38 (by decide) ?_
      refine k_iald (j := 4) hx hb hE hP (64 + nf + i) (lw_b hi) (by decide) (by decide) dX5_in_39 ?_
      refine w_top (show bgR G T i 4 = T 2 i from rfl) ?_
      refine lv_iload_n hx hb dX5_in_40 rfl (lv_at hl 2 rfl) ?_
      refine lv_icmp_ne (tgt := 48) hx hb dX5_in_41 (by decide) (fun c_4 => ?_) (fun c_4 => ?_)
      · refine lv_iconst (v := 0) hx hb dX5_in_48 (by decide) ?_
        refine lv_iadd hx hb dX5_in_49 ?_
        refine w_top (Int32.add_zero _) ?_
        refine lv_istore_n (lv' := [(2, .int (nI (ct (inP T ch) i))), (6, .ref (ba i)), (0, .ref (o 0)), (1, .int ch), (3, .ref (o 3)), (4, .int (nI n)), (5, .int (nI i))]) hx hb dX5_in_50 rfl hl (by decide) rfl (fun ls hl => ?_)
        refine lv_iinc (v := nI (i + 1)) (lv' := [(5, .int (nI (i + 1))), (2, .int (nI (ct (inP T ch) i))), (6, .ref (ba i)), (0, .ref (o 0)), (1, .int ch), (3, .ref (o 3)), (4, .int (nI n))]) hx hb dX5_in_51 hl (k := 6) rfl (iinc1 _) (by decide) rfl (fun ls hl => ?_)
        refine lv_goto (tgt := 14) hx hb dX5_in_54 (by decide) ?_
        have e9 : ct (inP T ch) (i + 1) = ct (inP T ch) i := ct_f (p := (inP T ch)) (show ¬ (T 1 i = 2 ∧ T 2 i = ch) from (fun h_ => c_4 h_.2))
        exact ih ls trivial (by show lv_has ls 7 [(0, .ref (o 0)), (1, .int ch), (2, .int (nI (ct (inP T ch) (i + 1)))), (3, .ref (o 3)), (4, .int (nI n)), (5, .int (nI (i + 1)))]; rw [e9]; exact lv_sub hl [3, 4, 1, 5, 6, 0] rfl)
      · refine lv_iconst (v := 1) hx hb dX5_in_44 (by decide) ?_
        refine lv_goto (tgt := 49) hx hb dX5_in_45 (by decide) ?_
        refine lv_iadd hx hb dX5_in_49 ?_
        refine w_top (nI_1 _) ?_
        refine lv_istore_n (lv' := [(2, .int (nI (ct (inP T ch) i + 1))), (6, .ref (ba i)), (0, .ref (o 0)), (1, .int ch), (3, .ref (o 3)), (4, .int (nI n)), (5, .int (nI i))]) hx hb dX5_in_50 rfl hl (by decide) rfl (fun ls hl => ?_)
        refine lv_iinc (v := nI (i + 1)) (lv' := [(5, .int (nI (i + 1))), (2, .int (nI (ct (inP T ch) i + 1))), (6, .ref (ba i)), (0, .ref (o 0)), (1, .int ch), (3, .ref (o 3)), (4, .int (nI n))]) hx hb dX5_in_51 hl (k := 6) rfl (iinc1 _) (by decide) rfl (fun ls hl => ?_)
        refine lv_goto (tgt := 14) hx hb dX5_in_54 (by decide) ?_
        have e9 : ct (inP T ch) (i + 1) = ct (inP T ch) i + 1 := ct_t (p := (inP T ch)) (show (T 1 i = 2 ∧ T 2 i = ch) from ⟨c_3, c_4⟩)
        exact ih ls trivial (by show lv_has ls 7 [(0, .ref (o 0)), (1, .int ch), (2, .int (nI (ct (inP T ch) (i + 1)))), (3, .ref (o 3)), (4, .int (nI n)), (5, .int (nI (i + 1)))]; rw [e9]; exact lv_sub hl [3, 4, 1, 5, 6, 0] rfl)

set_option maxHeartbeats 4000000 in
set_option maxRecDepth 100000 in
/-- is a bag misrouted -/
theorem metX5_isMisrouted (l : Launch) {D : va_G} {k : Nat → ClassId} {a tr o fa ba : Nat → Nat} {x : Nat} {S U : HS} {R : va_W} (G T : HS) {n nf L : Nat} (hn : n ≤ 40) (hnf : nf ≤ 6) (b f : Nat) (hbn : b < n) (hfn : f < nf) (hg : G 4 b = nI f) : PM l yX5_isMisrouted cX5_isMisrouted 3 (some FieldType.boolean) rmX5_isMisrouted D k (LW k a tr o fa ba x S U G T n nf L R) [.ref (o 0), .int (nI b)] (some (.int (bI (sMis G T f b)))) := by
  refine PM_of rfl (Nat.le_of_ble_eq_true rfl) ?_
  intro p e s m below meth c hC hr hlk hin hE hP ls hl
  have hC : CallFix p m c cX5_isMisrouted 3 s _ lw_all RX5 := hC
  have hx := hC.1
  have hb := hC.2.1
  have hown : s.vm.findClass RX5 = some m.cls := hC.2.2.2.1
  have hts := hC.2.2.2.2
  have hl : lv_has ls 3 [(0, .ref (o 0)), (1, .int (nI b))] := hl
  refine lv_aload_n hx hb dX5_isMisrouted_0 rfl (lv_at hl 0 rfl) ?_
  refine va_get (D := D) (ci := 5) (v := .ref (o 2)) (C := RX5) (T := TX5) (N := 6) hx hb hts tu_5 hown hE.1 hP 59 lw_59 rfl 3 (by decide) (hts _ tw_737) (fun _ h9 => h9) rfl dX5_isMisrouted_1 ?_
  refine lv_aload_n hx hb dX5_isMisrouted_4 rfl (lv_at hl 0 rfl) ?_
  refine va_get (D := D) (ci := 5) (v := .ref (o 3)) (C := RX5) (T := TX5) (N := 6) hx hb hts tu_5 hown hE.1 hP 59 lw_59 rfl 4 (by decide) (hts _ tw_739) (fun _ h9 => h9) rfl dX5_isMisrouted_5 ?_
  refine lv_iload_n hx hb dX5_isMisrouted_8 rfl (lv_at hl 1 rfl) ?_
  refine k_aald (j := b) hx hb hE hP 62 lw_62 hbn (Nat.lt_of_le_of_lt hn (by decide)) dX5_isMisrouted_9 ?_
  refine lv_iconst (v := 0) hx hb dX5_isMisrouted_10 (by decide) ?_
  refine k_iald (j := 0) hx hb hE hP (64 + nf + b) (lw_b hbn) (by decide) (by decide) dX5_isMisrouted_11 ?_
  refine w_top (show bgR G T b 0 = G 4 b from rfl) ?_
  refine w_top (show G 4 b = nI f from hg) ?_
  refine k_aald (j := f) hx hb hE hP 61 lw_61 hfn (Nat.lt_of_le_of_lt hnf (by decide)) dX5_isMisrouted_12 ?_
  refine lv_astore_n (lv' := [(2, .ref (fa f)), (0, .ref (o 0)), (1, .int (nI b))]) hx hb dX5_isMisrouted_13 rfl hl (by decide) rfl (fun ls hl => ?_)
  refine lv_aload_n hx hb dX5_isMisrouted_14 rfl (lv_at hl 1 rfl) ?_
  refine va_get (D := D) (ci := 5) (v := .ref (o 3)) (C := RX5) (T := TX5) (N := 6) hx hb hts tu_5 hown hE.1 hP 59 lw_59 rfl 4 (by decide) (hts _ tw_739) (fun _ h9 => h9) rfl dX5_isMisrouted_15 ?_
  refine lv_iload_n hx hb dX5_isMisrouted_18 rfl (lv_at hl 2 rfl) ?_
  refine k_aald (j := b) hx hb hE hP 62 lw_62 hbn (Nat.lt_of_le_of_lt hn (by decide)) dX5_isMisrouted_19 ?_
  refine lv_iconst (v := 3) hx hb dX5_isMisrouted_20 (by decide) ?_
  refine k_iald (j := 3) hx hb hE hP (64 + nf + b) (lw_b hbn) (by decide) (by decide) dX5_isMisrouted_21 ?_
  refine w_top (show bgR G T b 3 = T 1 b from rfl) ?_
  refine lv_iconst (v := 2) hx hb dX5_isMisrouted_22 (by decide) ?_
  refine lv_icmp_ne (tgt := 51) hx hb dX5_isMisrouted_23 (by decide) (fun c_1 => ?_) (fun c_1 => ?_)
  · refine lv_iconst (v := 0) hx hb dX5_isMisrouted_51 (by decide) ?_
    exact p_zret hx hb hr rfl hlk dX5_isMisrouted_52 (by rw [bI_f (show ¬ (T 1 b = 2 ∧ (G 2 f = 1 ∨ (¬ (G 1 f = T 2 b)))) from (fun h_ => c_1 h_.1))]; first | done | rfl)
  · refine lv_aload_n hx hb dX5_isMisrouted_26 rfl (lv_at hl 0 rfl) ?_
    refine lv_iconst (v := 1) hx hb dX5_isMisrouted_27 (by decide) ?_
    refine k_iald (j := 1) hx hb hE hP (64 + f) (lw_f hfn) (by decide) (by decide) dX5_isMisrouted_28 ?_
    refine w_top (show flR G f 1 = G 2 f from rfl) ?_
    refine lv_iconst (v := 1) hx hb dX5_isMisrouted_29 (by decide) ?_
    refine lv_icmp_eq (tgt := 47) hx hb dX5_isMisrouted_30 (by decide) (fun c_2 => ?_) (fun c_2 => ?_)
    · refine lv_iconst (v := 1) hx hb dX5_isMisrouted_47 (by decide) ?_
      refine lv_goto (tgt := 52) hx hb dX5_isMisrouted_48 (by decide) ?_
      exact p_zret hx hb hr rfl hlk dX5_isMisrouted_52 (by rw [bI_t (show (T 1 b = 2 ∧ (G 2 f = 1 ∨ (¬ (G 1 f = T 2 b)))) from ⟨c_1, (Or.inl c_2)⟩)]; first | done | rfl)
    · refine lv_aload_n hx hb dX5_isMisrouted_33 rfl (lv_at hl 0 rfl) ?_
      refine lv_iconst (v := 0) hx hb dX5_isMisrouted_34 (by decide) ?_
      refine k_iald (j := 0) hx hb hE hP (64 + f) (lw_f hfn) (by decide) (by decide) dX5_isMisrouted_35 ?_
      refine w_top (show flR G f 0 = G 1 f from rfl) ?_
      refine lv_aload_n hx hb dX5_isMisrouted_36 rfl (lv_at hl 1 rfl) ?_
      refine va_get (D := D) (ci := 5) (v := .ref (o 3)) (C := RX5) (T := TX5) (N := 6) hx hb hts tu_5 hown hE.1 hP 59 lw_59 rfl 4 (by decide) (hts _ tw_739) (fun _ h9 => h9) rfl dX5_isMisrouted_37 ?_
      refine lv_iload_n hx hb dX5_isMisrouted_40 rfl (lv_at hl 2 rfl) ?_
      refine k_aald (j := b) hx hb hE hP 62 lw_62 hbn (Nat.lt_of_le_of_lt hn (by decide)) dX5_isMisrouted_41 ?_
      refine lv_iconst (v := 4) hx hb dX5_isMisrouted_42 (by decide) ?_
      refine k_iald (j := 4) hx hb hE hP (64 + nf + b) (lw_b hbn) (by decide) (by decide) dX5_isMisrouted_43 ?_
      refine w_top (show bgR G T b 4 = T 2 b from rfl) ?_
      refine lv_icmp_eq (tgt := 51) hx hb dX5_isMisrouted_44 (by decide) (fun c_3 => ?_) (fun c_3 => ?_)
      · refine lv_iconst (v := 0) hx hb dX5_isMisrouted_51 (by decide) ?_
        exact p_zret hx hb hr rfl hlk dX5_isMisrouted_52 (by rw [bI_f (show ¬ (T 1 b = 2 ∧ (G 2 f = 1 ∨ (¬ (G 1 f = T 2 b)))) from (fun h_ => (fun h_ => Or.elim h_ c_2 (fun h_ => h_ c_3)) h_.2))]; first | done | rfl)
      · refine lv_iconst (v := 1) hx hb dX5_isMisrouted_47 (by decide) ?_
        refine lv_goto (tgt := 52) hx hb dX5_isMisrouted_48 (by decide) ?_
        exact p_zret hx hb hr rfl hlk dX5_isMisrouted_52 (by rw [bI_t (show (T 1 b = 2 ∧ (G 2 f = 1 ∨ (¬ (G 1 f = T 2 b)))) from ⟨c_1, (Or.inr c_3)⟩)]; first | done | rfl)

set_option maxHeartbeats 4000000 in
set_option maxRecDepth 100000 in
/-- how many are ready -/
theorem metX5_ready (l : Launch) {D : va_G} {k : Nat → ClassId} {a tr o fa ba : Nat → Nat} {x : Nat} {S U : HS} {R : va_W} (G T : HS) {n nf L : Nat} (hn : n ≤ 40) (hnf : nf ≤ 6) (f : Nat) (hfn : f < nf) : PM l yX5_ready cX5_ready 7 (some FieldType.int) rmX5_ready D k (LW k a tr o fa ba x S U G T n nf L R) [.ref (o 0), .int (nI f)] (some (.int (nI (mRdyN G T f n)))) := by
  refine PM_of rfl (Nat.le_of_ble_eq_true rfl) ?_
  intro p e s m below meth c hC hr hlk hin hE hP ls hl
  have hC : CallFix p m c cX5_ready 7 s _ lw_all RX5 := hC
  have hx := hC.1
  have hb := hC.2.1
  have hown : s.vm.findClass RX5 = some m.cls := hC.2.2.2.1
  have hts := hC.2.2.2.2
  have hl : lv_has ls 7 [(0, .ref (o 0)), (1, .int (nI f))] := hl
  refine lv_iconst (v := 0) hx hb dX5_ready_0 (by decide) ?_
  refine lv_istore_n (lv' := [(2, .int 0), (0, .ref (o 0)), (1, .int (nI f))]) hx hb dX5_ready_1 rfl hl (by decide) rfl (fun ls hl => ?_)
  refine lv_aload_n hx hb dX5_ready_2 rfl (lv_at hl 1 rfl) ?_
  refine va_get (D := D) (ci := 5) (v := .ref (o 3)) (C := RX5) (T := TX5) (N := 6) hx hb hts tu_5 hown hE.1 hP 59 lw_59 rfl 4 (by decide) (hts _ tw_739) (fun _ h9 => h9) rfl dX5_ready_3 ?_
  refine lv_astore_n (lv' := [(3, .ref (o 3)), (2, .int 0), (0, .ref (o 0)), (1, .int (nI f))]) hx hb dX5_ready_6 rfl hl (by decide) rfl (fun ls hl => ?_)
  refine lv_aload_n hx hb dX5_ready_7 rfl (lv_at hl 0 rfl) ?_
  refine k_olen hx hb hE hP 62 lw_62 dX5_ready_8 ?_
  refine lv_istore (lv' := [(4, .int (nI n)), (3, .ref (o 3)), (2, .int 0), (0, .ref (o 0)), (1, .int (nI f))]) hx hb dX5_ready_9 hl (by decide) rfl (fun ls hl => ?_)
  refine lv_iconst (v := 0) hx hb dX5_ready_11 (by decide) ?_
  refine lv_istore (lv' := [(5, .int 0), (4, .int (nI n)), (3, .ref (o 3)), (2, .int 0), (0, .ref (o 0)), (1, .int (nI f))]) hx hb dX5_ready_12 hl (by decide) rfl (fun ls hl => ?_)
  refine w_for (N := n) (fun _ => True) (fun i => [(0, .ref (o 0)), (1, .int (nI f)), (2, .int (nI (ct (fun i => G 4 i = nI f ∧ mRdy G T f i) i))), (3, .ref (o 3)), (4, .int (nI n)), (5, .int (nI i))]) (fun ls hI hl => ?_) (fun i hi hI ih ls hl => ?_) 0 (Nat.zero_le _) trivial (lv_sub hl [4, 5, 3, 2, 1, 0] rfl)
  · have hl : lv_has ls 7 [(0, .ref (o 0)), (1, .int (nI f)), (2, .int (nI (ct (fun i => G 4 i = nI f ∧ mRdy G T f i) n))), (3, .ref (o 3)), (4, .int (nI n)), (5, .int (nI n))] := hl
    refine lv_iload hx hb dX5_ready_14 (lv_at hl 5 rfl) ?_
    refine lv_iload hx hb dX5_ready_16 (lv_at hl 4 rfl) ?_
    refine lv_icmp_ge (tgt := 91) hx hb dX5_ready_18 (by decide) (fun c_1 => ?_) (fun c_ => absurd (nI_le (Nat.le_refl n) (Nat.lt_of_le_of_lt hn (by decide))) c_)
    refine lv_iload_n hx hb dX5_ready_91 rfl (lv_at hl 2 rfl) ?_
    exact p_iret hx hb hr hlk dX5_ready_92 (rfl)
  · have hl : lv_has ls 7 [(0, .ref (o 0)), (1, .int (nI f)), (2, .int (nI (ct (fun i => G 4 i = nI f ∧ mRdy G T f i) i))), (3, .ref (o 3)), (4, .int (nI n)), (5, .int (nI i))] := hl
    refine lv_iload hx hb dX5_ready_14 (lv_at hl 5 rfl) ?_
    refine lv_iload hx hb dX5_ready_16 (lv_at hl 4 rfl) ?_
    refine lv_icmp_ge (tgt := 91) hx hb dX5_ready_18 (by decide) (fun c_ => absurd c_ (nI_ge hi (Nat.lt_of_le_of_lt hn (by decide)))) (fun c_2 => ?_)
    refine lv_aload_n hx hb dX5_ready_21 rfl (lv_at hl 3 rfl) ?_
    refine lv_iload hx hb dX5_ready_22 (lv_at hl 5 rfl) ?_
    refine k_aald (j := i) hx hb hE hP 62 lw_62 hi (Nat.lt_of_le_of_lt hn (by decide)) dX5_ready_24 ?_
    refine lv_astore (lv' := [(6, .ref (ba i)), (0, .ref (o 0)), (1, .int (nI f)), (2, .int (nI (ct (fun i => G 4 i = nI f ∧ mRdy G T f i) i))), (3, .ref (o 3)), (4, .int (nI n)), (5, .int (nI i))]) hx hb dX5_ready_25 hl (by decide) rfl (fun ls hl => ?_)
    refine lv_aload hx hb dX5_ready_27 (lv_at hl 0 rfl) ?_
    refine lv_iconst (v := 0) hx hb dX5_ready_29 (by decide) ?_
    refine k_iald (j := 0) hx hb hE hP (64 + nf + i) (lw_b hi) (by decide) (by decide) dX5_ready_30 ?_
    refine w_top (show bgR G T i 0 = G 4 i from rfl) ?_
    refine lv_iload_n hx hb dX5_ready_31 rfl (lv_at hl 2 rfl) ?_
    refine lv_icmp_ne (tgt := 85) hx hb dX5_ready_32 (by decide) (fun c_3 => ?_) (fun c_3 => ?_)
    · refine lv_iinc (v := nI (i + 1)) (lv' := [(5, .int (nI (i + 1))), (6, .ref (ba i)), (0, .ref (o 0)), (1, .int (nI f)), (2, .int (nI (ct (fun i => G 4 i = nI f ∧ mRdy G T f i) i))), (3, .ref (o 3)), (4, .int (nI n))]) hx hb dX5_ready_85 hl (k := 6) rfl (iinc1 _) (by decide) rfl (fun ls hl => ?_)
      refine lv_goto (tgt := 14) hx hb dX5_ready_88 (by decide) ?_
      have e9 : ct (fun i => G 4 i = nI f ∧ mRdy G T f i) (i + 1) = ct (fun i => G 4 i = nI f ∧ mRdy G T f i) i := ct_f (p := (fun i => G 4 i = nI f ∧ mRdy G T f i)) (show ¬ (G 4 i = nI f ∧ (T 1 i = 5 ∨ (G 2 f = 0 ∧ T 1 i = 2 ∧ T 2 i = G 1 f))) from (fun h_ => c_3 h_.1))
      exact ih ls trivial (by show lv_has ls 7 [(0, .ref (o 0)), (1, .int (nI f)), (2, .int (nI (ct (fun i => G 4 i = nI f ∧ mRdy G T f i) (i + 1)))), (3, .ref (o 3)), (4, .int (nI n)), (5, .int (nI (i + 1)))]; rw [e9]; exact lv_sub hl [2, 3, 4, 5, 6, 0] rfl)
    · refine lv_iload_n hx hb dX5_ready_35 rfl (lv_at hl 3 rfl) ?_
      refine lv_aload hx hb dX5_ready_36 (lv_at hl 0 rfl) ?_
      refine lv_iconst (v := 3) hx hb dX5_ready_38 (by decide) ?_
      refine k_iald (j := 3) hx hb hE hP (64 + nf + i) (lw_b hi) (by decide) (by decide) dX5_ready_39 ?_
      refine w_top (show bgR G T i 3 = T 1 i from rfl) ?_
      refine lv_iconst (v := 5) hx hb dX5_ready_40 (by decide) ?_
      refine lv_icmp_eq (tgt := 78) hx hb dX5_ready_41 (by decide) (fun c_4 => ?_) (fun c_4 => ?_)
      · refine lv_iconst (v := 1) hx hb dX5_ready_78 (by decide) ?_
        refine lv_goto (tgt := 83) hx hb dX5_ready_79 (by decide) ?_
        refine lv_iadd hx hb dX5_ready_83 ?_
        refine w_top (nI_1 _) ?_
        refine lv_istore_n (lv' := [(2, .int (nI (ct (fun i => G 4 i = nI f ∧ mRdy G T f i) i + 1))), (6, .ref (ba i)), (0, .ref (o 0)), (1, .int (nI f)), (3, .ref (o 3)), (4, .int (nI n)), (5, .int (nI i))]) hx hb dX5_ready_84 rfl hl (by decide) rfl (fun ls hl => ?_)
        refine lv_iinc (v := nI (i + 1)) (lv' := [(5, .int (nI (i + 1))), (2, .int (nI (ct (fun i => G 4 i = nI f ∧ mRdy G T f i) i + 1))), (6, .ref (ba i)), (0, .ref (o 0)), (1, .int (nI f)), (3, .ref (o 3)), (4, .int (nI n))]) hx hb dX5_ready_85 hl (k := 6) rfl (iinc1 _) (by decide) rfl (fun ls hl => ?_)
        refine lv_goto (tgt := 14) hx hb dX5_ready_88 (by decide) ?_
        have e9 : ct (fun i => G 4 i = nI f ∧ mRdy G T f i) (i + 1) = ct (fun i => G 4 i = nI f ∧ mRdy G T f i) i + 1 := ct_t (p := (fun i => G 4 i = nI f ∧ mRdy G T f i)) (show (G 4 i = nI f ∧ (T 1 i = 5 ∨ (G 2 f = 0 ∧ T 1 i = 2 ∧ T 2 i = G 1 f))) from ⟨c_3, (Or.inl c_4)⟩)
        exact ih ls trivial (by show lv_has ls 7 [(0, .ref (o 0)), (1, .int (nI f)), (2, .int (nI (ct (fun i => G 4 i = nI f ∧ mRdy G T f i) (i + 1)))), (3, .ref (o 3)), (4, .int (nI n)), (5, .int (nI (i + 1)))]; rw [e9]; exact lv_sub hl [3, 4, 1, 5, 6, 0] rfl)
      · refine lv_aload hx hb dX5_ready_44 (lv_at hl 0 rfl) ?_
        refine lv_iconst (v := 3) hx hb dX5_ready_46 (by decide) ?_
        refine k_iald (j := 3) hx hb hE hP (64 + nf + i) (lw_b hi) (by decide) (by decide) dX5_ready_47 ?_
        refine w_top (show bgR G T i 3 = T 1 i from rfl) ?_
        refine lv_iconst (v := 2) hx hb dX5_ready_48 (by decide) ?_
        refine lv_icmp_ne (tgt := 82) hx hb dX5_ready_49 (by decide) (fun c_5 => ?_) (fun c_5 => ?_)
        · refine lv_iconst (v := 0) hx hb dX5_ready_82 (by decide) ?_
          refine lv_iadd hx hb dX5_ready_83 ?_
          refine w_top (Int32.add_zero _) ?_
          refine lv_istore_n (lv' := [(2, .int (nI (ct (fun i => G 4 i = nI f ∧ mRdy G T f i) i))), (6, .ref (ba i)), (0, .ref (o 0)), (1, .int (nI f)), (3, .ref (o 3)), (4, .int (nI n)), (5, .int (nI i))]) hx hb dX5_ready_84 rfl hl (by decide) rfl (fun ls hl => ?_)
          refine lv_iinc (v := nI (i + 1)) (lv' := [(5, .int (nI (i + 1))), (2, .int (nI (ct (fun i => G 4 i = nI f ∧ mRdy G T f i) i))), (6, .ref (ba i)), (0, .ref (o 0)), (1, .int (nI f)), (3, .ref (o 3)), (4, .int (nI n))]) hx hb dX5_ready_85 hl (k := 6) rfl (iinc1 _) (by decide) rfl (fun ls hl => ?_)
          refine lv_goto (tgt := 14) hx hb dX5_ready_88 (by decide) ?_
          have e9 : ct (fun i => G 4 i = nI f ∧ mRdy G T f i) (i + 1) = ct (fun i => G 4 i = nI f ∧ mRdy G T f i) i := ct_f (p := (fun i => G 4 i = nI f ∧ mRdy G T f i)) (show ¬ (G 4 i = nI f ∧ (T 1 i = 5 ∨ (G 2 f = 0 ∧ T 1 i = 2 ∧ T 2 i = G 1 f))) from (fun h_ => (fun h_ => Or.elim h_ c_4 (fun h_ => c_5 h_.2.1)) h_.2))
          exact ih ls trivial (by show lv_has ls 7 [(0, .ref (o 0)), (1, .int (nI f)), (2, .int (nI (ct (fun i => G 4 i = nI f ∧ mRdy G T f i) (i + 1)))), (3, .ref (o 3)), (4, .int (nI n)), (5, .int (nI (i + 1)))]; rw [e9]; exact lv_sub hl [3, 4, 1, 5, 6, 0] rfl)
        · refine lv_aload_n hx hb dX5_ready_52 rfl (lv_at hl 1 rfl) ?_
          refine va_get (D := D) (ci := 5) (v := .ref (o 2)) (C := RX5) (T := TX5) (N := 6) hx hb hts tu_5 hown hE.1 hP 59 lw_59 rfl 3 (by decide) (hts _ tw_737) (fun _ h9 => h9) rfl dX5_ready_53 ?_
          refine lv_iload_n hx hb dX5_ready_56 rfl (lv_at hl 2 rfl) ?_
          refine k_aald (j := f) hx hb hE hP 61 lw_61 hfn (Nat.lt_of_le_of_lt hnf (by decide)) dX5_ready_57 ?_
          refine lv_iconst (v := 1) hx hb dX5_ready_58 (by decide) ?_
          refine k_iald (j := 1) hx hb hE hP (64 + f) (lw_f hfn) (by decide) (by decide) dX5_ready_59 ?_
          refine w_top (show flR G f 1 = G 2 f from rfl) ?_
          refine lv_if_ne (tgt := 82) hx hb dX5_ready_60 (by decide) (fun c_6 => ?_) (fun c_6 => ?_)
          · refine lv_iconst (v := 0) hx hb dX5_ready_82 (by decide) ?_
            refine lv_iadd hx hb dX5_ready_83 ?_
            refine w_top (Int32.add_zero _) ?_
            refine lv_istore_n (lv' := [(2, .int (nI (ct (fun i => G 4 i = nI f ∧ mRdy G T f i) i))), (6, .ref (ba i)), (0, .ref (o 0)), (1, .int (nI f)), (3, .ref (o 3)), (4, .int (nI n)), (5, .int (nI i))]) hx hb dX5_ready_84 rfl hl (by decide) rfl (fun ls hl => ?_)
            refine lv_iinc (v := nI (i + 1)) (lv' := [(5, .int (nI (i + 1))), (2, .int (nI (ct (fun i => G 4 i = nI f ∧ mRdy G T f i) i))), (6, .ref (ba i)), (0, .ref (o 0)), (1, .int (nI f)), (3, .ref (o 3)), (4, .int (nI n))]) hx hb dX5_ready_85 hl (k := 6) rfl (iinc1 _) (by decide) rfl (fun ls hl => ?_)
            refine lv_goto (tgt := 14) hx hb dX5_ready_88 (by decide) ?_
            have e9 : ct (fun i => G 4 i = nI f ∧ mRdy G T f i) (i + 1) = ct (fun i => G 4 i = nI f ∧ mRdy G T f i) i := ct_f (p := (fun i => G 4 i = nI f ∧ mRdy G T f i)) (show ¬ (G 4 i = nI f ∧ (T 1 i = 5 ∨ (G 2 f = 0 ∧ T 1 i = 2 ∧ T 2 i = G 1 f))) from (fun h_ => (fun h_ => Or.elim h_ c_4 (fun h_ => c_6 h_.1)) h_.2))
            exact ih ls trivial (by show lv_has ls 7 [(0, .ref (o 0)), (1, .int (nI f)), (2, .int (nI (ct (fun i => G 4 i = nI f ∧ mRdy G T f i) (i + 1)))), (3, .ref (o 3)), (4, .int (nI n)), (5, .int (nI (i + 1)))]; rw [e9]; exact lv_sub hl [3, 4, 1, 5, 6, 0] rfl)
          · refine lv_aload hx hb dX5_ready_63 (lv_at hl 0 rfl) ?_
            refine lv_iconst (v := 4) hx hb dX5_ready_65 (by decide) ?_
            refine k_iald (j := 4) hx hb hE hP (64 + nf + i) (lw_b hi) (by decide) (by decide) dX5_ready_66 ?_
            refine w_top (show bgR G T i 4 = T 2 i from rfl) ?_
            refine lv_aload_n hx hb dX5_ready_67 rfl (lv_at hl 1 rfl) ?_
            refine va_get (D := D) (ci := 5) (v := .ref (o 2)) (C := RX5) (T := TX5) (N := 6) hx hb hts tu_5 hown hE.1 hP 59 lw_59 rfl 3 (by decide) (hts _ tw_737) (fun _ h9 => h9) rfl dX5_ready_68 ?_
            refine lv_iload_n hx hb dX5_ready_71 rfl (lv_at hl 2 rfl) ?_
            refine k_aald (j := f) hx hb hE hP 61 lw_61 hfn (Nat.lt_of_le_of_lt hnf (by decide)) dX5_ready_72 ?_
            refine lv_iconst (v := 0) hx hb dX5_ready_73 (by decide) ?_
            refine k_iald (j := 0) hx hb hE hP (64 + f) (lw_f hfn) (by decide) (by decide) dX5_ready_74 ?_
            refine w_top (show flR G f 0 = G 1 f from rfl) ?_
            refine lv_icmp_ne (tgt := 82) hx hb dX5_ready_75 (by decide) (fun c_7 => ?_) (fun c_7 => ?_)
            · refine lv_iconst (v := 0) hx hb dX5_ready_82 (by decide) ?_
              refine lv_iadd hx hb dX5_ready_83 ?_
              refine w_top (Int32.add_zero _) ?_
              refine lv_istore_n (lv' := [(2, .int (nI (ct (fun i => G 4 i = nI f ∧ mRdy G T f i) i))), (6, .ref (ba i)), (0, .ref (o 0)), (1, .int (nI f)), (3, .ref (o 3)), (4, .int (nI n)), (5, .int (nI i))]) hx hb dX5_ready_84 rfl hl (by decide) rfl (fun ls hl => ?_)
              refine lv_iinc (v := nI (i + 1)) (lv' := [(5, .int (nI (i + 1))), (2, .int (nI (ct (fun i => G 4 i = nI f ∧ mRdy G T f i) i))), (6, .ref (ba i)), (0, .ref (o 0)), (1, .int (nI f)), (3, .ref (o 3)), (4, .int (nI n))]) hx hb dX5_ready_85 hl (k := 6) rfl (iinc1 _) (by decide) rfl (fun ls hl => ?_)
              refine lv_goto (tgt := 14) hx hb dX5_ready_88 (by decide) ?_
              have e9 : ct (fun i => G 4 i = nI f ∧ mRdy G T f i) (i + 1) = ct (fun i => G 4 i = nI f ∧ mRdy G T f i) i := ct_f (p := (fun i => G 4 i = nI f ∧ mRdy G T f i)) (show ¬ (G 4 i = nI f ∧ (T 1 i = 5 ∨ (G 2 f = 0 ∧ T 1 i = 2 ∧ T 2 i = G 1 f))) from (fun h_ => (fun h_ => Or.elim h_ c_4 (fun h_ => c_7 h_.2.2)) h_.2))
              exact ih ls trivial (by show lv_has ls 7 [(0, .ref (o 0)), (1, .int (nI f)), (2, .int (nI (ct (fun i => G 4 i = nI f ∧ mRdy G T f i) (i + 1)))), (3, .ref (o 3)), (4, .int (nI n)), (5, .int (nI (i + 1)))]; rw [e9]; exact lv_sub hl [3, 4, 1, 5, 6, 0] rfl)
            · refine lv_iconst (v := 1) hx hb dX5_ready_78 (by decide) ?_
              refine lv_goto (tgt := 83) hx hb dX5_ready_79 (by decide) ?_
              refine lv_iadd hx hb dX5_ready_83 ?_
              refine w_top (nI_1 _) ?_
              refine lv_istore_n (lv' := [(2, .int (nI (ct (fun i => G 4 i = nI f ∧ mRdy G T f i) i + 1))), (6, .ref (ba i)), (0, .ref (o 0)), (1, .int (nI f)), (3, .ref (o 3)), (4, .int (nI n)), (5, .int (nI i))]) hx hb dX5_ready_84 rfl hl (by decide) rfl (fun ls hl => ?_)
              refine lv_iinc (v := nI (i + 1)) (lv' := [(5, .int (nI (i + 1))), (2, .int (nI (ct (fun i => G 4 i = nI f ∧ mRdy G T f i) i + 1))), (6, .ref (ba i)), (0, .ref (o 0)), (1, .int (nI f)), (3, .ref (o 3)), (4, .int (nI n))]) hx hb dX5_ready_85 hl (k := 6) rfl (iinc1 _) (by decide) rfl (fun ls hl => ?_)
              refine lv_goto (tgt := 14) hx hb dX5_ready_88 (by decide) ?_
              have e9 : ct (fun i => G 4 i = nI f ∧ mRdy G T f i) (i + 1) = ct (fun i => G 4 i = nI f ∧ mRdy G T f i) i + 1 := ct_t (p := (fun i => G 4 i = nI f ∧ mRdy G T f i)) (show (G 4 i = nI f ∧ (T 1 i = 5 ∨ (G 2 f = 0 ∧ T 1 i = 2 ∧ T 2 i = G 1 f))) from ⟨c_3, (Or.inr ⟨c_6, c_5, c_7⟩)⟩)
              exact ih ls trivial (by show lv_has ls 7 [(0, .ref (o 0)), (1, .int (nI f)), (2, .int (nI (ct (fun i => G 4 i = nI f ∧ mRdy G T f i) (i + 1)))), (3, .ref (o 3)), (4, .int (nI n)), (5, .int (nI (i + 1)))]; rw [e9]; exact lv_sub hl [3, 4, 1, 5, 6, 0] rfl)

set_option maxHeartbeats 4000000 in
set_option maxRecDepth 100000 in
/-- how many a flight has -/
theorem metX5_of (l : Launch) {D : va_G} {k : Nat → ClassId} {a tr o fa ba : Nat → Nat} {x : Nat} {S U : HS} {R : va_W} (G T : HS) {n nf L : Nat} (hn : n ≤ 40) (hnf : nf ≤ 6) (f : Nat) : PM l yX5_of cX5_of 7 (some FieldType.int) rmX5_of D k (LW k a tr o fa ba x S U G T n nf L R) [.ref (o 0), .int (nI f)] (some (.int (nI (mOf G (nI f) n)))) := by
  refine PM_of rfl (Nat.le_of_ble_eq_true rfl) ?_
  intro p e s m below meth c hC hr hlk hin hE hP ls hl
  have hC : CallFix p m c cX5_of 7 s _ lw_all RX5 := hC
  have hx := hC.1
  have hb := hC.2.1
  have hown : s.vm.findClass RX5 = some m.cls := hC.2.2.2.1
  have hts := hC.2.2.2.2
  have hl : lv_has ls 7 [(0, .ref (o 0)), (1, .int (nI f))] := hl
  refine lv_iconst (v := 0) hx hb dX5_of_0 (by decide) ?_
  refine lv_istore_n (lv' := [(2, .int 0), (0, .ref (o 0)), (1, .int (nI f))]) hx hb dX5_of_1 rfl hl (by decide) rfl (fun ls hl => ?_)
  refine lv_aload_n hx hb dX5_of_2 rfl (lv_at hl 1 rfl) ?_
  refine va_get (D := D) (ci := 5) (v := .ref (o 3)) (C := RX5) (T := TX5) (N := 6) hx hb hts tu_5 hown hE.1 hP 59 lw_59 rfl 4 (by decide) (hts _ tw_739) (fun _ h9 => h9) rfl dX5_of_3 ?_
  refine lv_astore_n (lv' := [(3, .ref (o 3)), (2, .int 0), (0, .ref (o 0)), (1, .int (nI f))]) hx hb dX5_of_6 rfl hl (by decide) rfl (fun ls hl => ?_)
  refine lv_aload_n hx hb dX5_of_7 rfl (lv_at hl 0 rfl) ?_
  refine k_olen hx hb hE hP 62 lw_62 dX5_of_8 ?_
  refine lv_istore (lv' := [(4, .int (nI n)), (3, .ref (o 3)), (2, .int 0), (0, .ref (o 0)), (1, .int (nI f))]) hx hb dX5_of_9 hl (by decide) rfl (fun ls hl => ?_)
  refine lv_iconst (v := 0) hx hb dX5_of_11 (by decide) ?_
  refine lv_istore (lv' := [(5, .int 0), (4, .int (nI n)), (3, .ref (o 3)), (2, .int 0), (0, .ref (o 0)), (1, .int (nI f))]) hx hb dX5_of_12 hl (by decide) rfl (fun ls hl => ?_)
  refine w_for (N := n) (fun _ => True) (fun i => [(0, .ref (o 0)), (1, .int (nI f)), (2, .int (nI (ct (fun i => G 4 i = nI f) i))), (3, .ref (o 3)), (4, .int (nI n)), (5, .int (nI i))]) (fun ls hI hl => ?_) (fun i hi hI ih ls hl => ?_) 0 (Nat.zero_le _) trivial (lv_sub hl [4, 5, 3, 2, 1, 0] rfl)
  · have hl : lv_has ls 7 [(0, .ref (o 0)), (1, .int (nI f)), (2, .int (nI (ct (fun i => G 4 i = nI f) n))), (3, .ref (o 3)), (4, .int (nI n)), (5, .int (nI n))] := hl
    refine lv_iload hx hb dX5_of_14 (lv_at hl 5 rfl) ?_
    refine lv_iload hx hb dX5_of_16 (lv_at hl 4 rfl) ?_
    refine lv_icmp_ge (tgt := 49) hx hb dX5_of_18 (by decide) (fun c_1 => ?_) (fun c_ => absurd (nI_le (Nat.le_refl n) (Nat.lt_of_le_of_lt hn (by decide))) c_)
    refine lv_iload_n hx hb dX5_of_49 rfl (lv_at hl 2 rfl) ?_
    exact p_iret hx hb hr hlk dX5_of_50 (rfl)
  · have hl : lv_has ls 7 [(0, .ref (o 0)), (1, .int (nI f)), (2, .int (nI (ct (fun i => G 4 i = nI f) i))), (3, .ref (o 3)), (4, .int (nI n)), (5, .int (nI i))] := hl
    refine lv_iload hx hb dX5_of_14 (lv_at hl 5 rfl) ?_
    refine lv_iload hx hb dX5_of_16 (lv_at hl 4 rfl) ?_
    refine lv_icmp_ge (tgt := 49) hx hb dX5_of_18 (by decide) (fun c_ => absurd c_ (nI_ge hi (Nat.lt_of_le_of_lt hn (by decide)))) (fun c_2 => ?_)
    refine lv_aload_n hx hb dX5_of_21 rfl (lv_at hl 3 rfl) ?_
    refine lv_iload hx hb dX5_of_22 (lv_at hl 5 rfl) ?_
    refine k_aald (j := i) hx hb hE hP 62 lw_62 hi (Nat.lt_of_le_of_lt hn (by decide)) dX5_of_24 ?_
    refine lv_astore (lv' := [(6, .ref (ba i)), (0, .ref (o 0)), (1, .int (nI f)), (2, .int (nI (ct (fun i => G 4 i = nI f) i))), (3, .ref (o 3)), (4, .int (nI n)), (5, .int (nI i))]) hx hb dX5_of_25 hl (by decide) rfl (fun ls hl => ?_)
    refine lv_iload_n hx hb dX5_of_27 rfl (lv_at hl 3 rfl) ?_
    refine lv_aload hx hb dX5_of_28 (lv_at hl 0 rfl) ?_
    refine lv_iconst (v := 0) hx hb dX5_of_30 (by decide) ?_
    refine k_iald (j := 0) hx hb hE hP (64 + nf + i) (lw_b hi) (by decide) (by decide) dX5_of_31 ?_
    refine w_top (show bgR G T i 0 = G 4 i from rfl) ?_
    refine lv_iload_n hx hb dX5_of_32 rfl (lv_at hl 2 rfl) ?_
    refine lv_icmp_ne (tgt := 40) hx hb dX5_of_33 (by decide) (fun c_3 => ?_) (fun c_3 => ?_)
    · refine lv_iconst (v := 0) hx hb dX5_of_40 (by decide) ?_
      refine lv_iadd hx hb dX5_of_41 ?_
      refine w_top (Int32.add_zero _) ?_
      refine lv_istore_n (lv' := [(2, .int (nI (ct (fun i => G 4 i = nI f) i))), (6, .ref (ba i)), (0, .ref (o 0)), (1, .int (nI f)), (3, .ref (o 3)), (4, .int (nI n)), (5, .int (nI i))]) hx hb dX5_of_42 rfl hl (by decide) rfl (fun ls hl => ?_)
      refine lv_iinc (v := nI (i + 1)) (lv' := [(5, .int (nI (i + 1))), (2, .int (nI (ct (fun i => G 4 i = nI f) i))), (6, .ref (ba i)), (0, .ref (o 0)), (1, .int (nI f)), (3, .ref (o 3)), (4, .int (nI n))]) hx hb dX5_of_43 hl (k := 6) rfl (iinc1 _) (by decide) rfl (fun ls hl => ?_)
      refine lv_goto (tgt := 14) hx hb dX5_of_46 (by decide) ?_
      have e9 : ct (fun i => G 4 i = nI f) (i + 1) = ct (fun i => G 4 i = nI f) i := ct_f (p := (fun i => G 4 i = nI f)) (show ¬ (G 4 i = nI f) from c_3)
      exact ih ls trivial (by show lv_has ls 7 [(0, .ref (o 0)), (1, .int (nI f)), (2, .int (nI (ct (fun i => G 4 i = nI f) (i + 1)))), (3, .ref (o 3)), (4, .int (nI n)), (5, .int (nI (i + 1)))]; rw [e9]; exact lv_sub hl [3, 4, 1, 5, 6, 0] rfl)
    · refine lv_iconst (v := 1) hx hb dX5_of_36 (by decide) ?_
      refine lv_goto (tgt := 41) hx hb dX5_of_37 (by decide) ?_
      refine lv_iadd hx hb dX5_of_41 ?_
      refine w_top (nI_1 _) ?_
      refine lv_istore_n (lv' := [(2, .int (nI (ct (fun i => G 4 i = nI f) i + 1))), (6, .ref (ba i)), (0, .ref (o 0)), (1, .int (nI f)), (3, .ref (o 3)), (4, .int (nI n)), (5, .int (nI i))]) hx hb dX5_of_42 rfl hl (by decide) rfl (fun ls hl => ?_)
      refine lv_iinc (v := nI (i + 1)) (lv' := [(5, .int (nI (i + 1))), (2, .int (nI (ct (fun i => G 4 i = nI f) i + 1))), (6, .ref (ba i)), (0, .ref (o 0)), (1, .int (nI f)), (3, .ref (o 3)), (4, .int (nI n))]) hx hb dX5_of_43 hl (k := 6) rfl (iinc1 _) (by decide) rfl (fun ls hl => ?_)
      refine lv_goto (tgt := 14) hx hb dX5_of_46 (by decide) ?_
      have e9 : ct (fun i => G 4 i = nI f) (i + 1) = ct (fun i => G 4 i = nI f) i + 1 := ct_t (p := (fun i => G 4 i = nI f)) (show G 4 i = nI f from c_3)
      exact ih ls trivial (by show lv_has ls 7 [(0, .ref (o 0)), (1, .int (nI f)), (2, .int (nI (ct (fun i => G 4 i = nI f) (i + 1)))), (3, .ref (o 3)), (4, .int (nI n)), (5, .int (nI (i + 1)))]; rw [e9]; exact lv_sub hl [3, 4, 1, 5, 6, 0] rfl)

set_option maxHeartbeats 4000000 in
set_option maxRecDepth 100000 in
/-- a bag is put -/
theorem metX5_put (l : Launch) {D : va_G} {k : Nat → ClassId} {a tr o fa ba : Nat → Nat} {x : Nat} {S U : HS} {R : va_W} (G T : HS) {n nf L : Nat} (hn : n ≤ 40) (hnf : nf ≤ 6) (b : Nat) (w z : Int32) (hbn : b < n) : MM l yX5_put cX5_put 4 none rmX5_put D k (LW k a tr o fa ba x S U G T n nf L R) [.ref (o 0), .int (nI b), .int w, .int z] none (LW k a tr o fa ba x S U G (mPutB T b w z) n nf L R) := by
  refine MM_of rfl (Nat.le_of_ble_eq_true rfl) ?_
  intro p e s m below meth c hC hr hlk hin hE hP hD hS ls hl
  have hC : CallFix p m c cX5_put 4 s _ lw_all RX5 := hC
  have hx := hC.1
  have hb := hC.2.1
  have hown : s.vm.findClass RX5 = some m.cls := hC.2.2.2.1
  have hts := hC.2.2.2.2
  have hl : lv_has ls 4 [(0, .ref (o 0)), (1, .int (nI b)), (2, .int w), (3, .int z)] := hl
  refine lv_aload_n hx hb dX5_put_0 rfl (lv_at hl 0 rfl) ?_
  refine va_get (D := D) (ci := 5) (v := .ref (o 3)) (C := RX5) (T := TX5) (N := 6) hx hb hts tu_5 hown hE.1 hP 59 lw_59 rfl 4 (by decide) (hts _ tw_739) (fun _ h9 => h9) rfl dX5_put_1 ?_
  refine lv_iload_n hx hb dX5_put_4 rfl (lv_at hl 1 rfl) ?_
  refine k_aald (j := b) hx hb hE hP 62 lw_62 hbn (Nat.lt_of_le_of_lt hn (by decide)) dX5_put_5 ?_
  refine lv_iconst (v := 3) hx hb dX5_put_6 (by decide) ?_
  refine lv_iload_n hx hb dX5_put_7 rfl (lv_at hl 2 rfl) ?_
  refine k_iast (j := 3) hx hb hE hP hD hS (64 + nf + b) (lw_b hbn) (by decide) (by decide) dX5_put_8 (fun H locs hP hD hS => ?_)
  rw [lws_b3 hbn] at hP hD
  have hP : va_P D vwCl (LW k a tr o fa ba x S U G (sf T 1 (upd (T 1) b w)) n nf L R) H := hP
  have hD : va_D (va_in (LW k a tr o fa ba x S U G T n nf L R)) (LW k a tr o fa ba x S U G (sf T 1 (upd (T 1) b w)) n nf L R) := hD
  refine lv_aload_n hx hb dX5_put_9 rfl (lv_at hl 0 rfl) ?_
  refine va_get (D := D) (ci := 5) (v := .ref (o 3)) (C := RX5) (T := TX5) (N := 6) hx hb hts tu_5 hown hE.1 hP 59 lw_59 rfl 4 (by decide) (hts _ tw_739) (fun _ h9 => h9) rfl dX5_put_10 ?_
  refine lv_iload_n hx hb dX5_put_13 rfl (lv_at hl 1 rfl) ?_
  refine k_aald (j := b) hx hb hE hP 62 lw_62 hbn (Nat.lt_of_le_of_lt hn (by decide)) dX5_put_14 ?_
  refine lv_iconst (v := 4) hx hb dX5_put_15 (by decide) ?_
  refine lv_iload_n hx hb dX5_put_16 rfl (lv_at hl 3 rfl) ?_
  refine k_iast (j := 4) hx hb hE hP hD hS (64 + nf + b) (lw_b hbn) (by decide) (by decide) dX5_put_17 (fun H locs hP hD hS => ?_)
  rw [lws_b4 hbn] at hP hD
  rw [show (sf T 1 (upd (T 1) b w)) 2 = T 2 from rfl] at hP hD
  have hP : va_P D vwCl (LW k a tr o fa ba x S U G (sf (sf T 1 (upd (T 1) b w)) 2 (upd (T 2) b z)) n nf L R) H := hP
  have hD : va_D (va_in (LW k a tr o fa ba x S U G T n nf L R)) (LW k a tr o fa ba x S U G (sf (sf T 1 (upd (T 1) b w)) 2 (upd (T 2) b z)) n nf L R) := hD
  exact m_vret hx hb hr hlk dX5_put_18 hP hS

