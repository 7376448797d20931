/-! ITEM: contracts of its methods -/
section MI
variable {D : va_G} {K : Nat → ClassId} {H : Heap} {A : Nat → Prop} {R : va_W} {o : Nat → Nat} {ad : Nat → Nat × Nat × Nat} {va fl af : Nat → Int64} {bl : Nat → Bool} {n tc sc : Nat} {T S : Nat → Bool} {us : Nat → Nat} {ps : Nat → Nat → Nat} {am : Nat → Nat → Int64}
set_option maxHeartbeats 4000000 in
set_option maxRecDepth 100000 in
/-- slotOf: the slot of a position, or -1 -/
theorem cI_slotOf (l : Launch) (hP : va_P D vwCl (dW R o K ad va fl af bl n tc sc T S us ps am) H) {i : Nat} (hi : i < n) (hu : us i ≤ 16) (x : Int32) : Met l yX0_slotOf (tC yX0_slotOf cX0_slotOf 3 (some .int)) (rmK 0 0 0) (kP D K H [.ref ((ad i).1), .int x]) (k2_QcV (.int (slR (ps i) x (us i)))) 0 0 (fun _ => False) := by
  refine Met.ofW (cc := cX0_slotOf) (maxL := 3) (ret := (some .int)) (by decide) rfl ?_
  intro p e s m args below meth c s₁ B hml hv
  obtain ⟨rfl, hH, hK, hN, hO⟩ := hv
  have hx := B.exec
  have hb := B.bytes
  have hr := B.returns
  have hts : ∀ w ∈ tT, w.before _ s = true := fun w h => atoms_spec (ws := tC yX0_slotOf cX0_slotOf 3 (some .int)) B.pre w (List.mem_cons_of_mem _ h)
  have hown : s.vm.findClass RX0 = some m.cls := findClass_of_methodNamed B.named
  have hlocks := B.notSynchronized
  have C : cx RX0 D K p s m _ c cX0_slotOf := ⟨hx, hb, hown, hts, hK, hN, hO⟩
  have hR : rmOk (headSpec (tC yX0_slotOf cX0_slotOf 3 (some .int)) (rmK 0 0 0)).room 0 0 0 := ⟨Nat.le_refl _, Nat.le_refl _, Nat.le_refl _, Nat.le_refl _⟩
  subst hH
  have hl := lv_entry ([.ref ((ad i).1), .int x]) (n := 3) (Nat.le_of_ble_eq_true rfl)
  rw [lg_entry_eq]
  generalize (lg_sl ([.ref ((ad i).1), .int x]) ++ List.replicate (3 - (lg_sl ([.ref ((ad i).1), .int x])).length) Slot.unset).toArray = ls at hl ⊢
  have hl : lv_has ls 3 [(0, .ref ((ad i).1)), (1, .int x)] := hl
  refine lv_iconst (v := nI 0) hx hb dX0_slotOf_0 (by decide) ?_
  refine lv_istore_n (lv' := [(2, .int (nI 0)), (0, .ref ((ad i).1)), (1, .int x)]) hx hb dX0_slotOf_1 rfl hl (by decide) rfl (fun ls hl => ?_)
  refine lpW (U := us i) (pcH := 2) (I := fun k ls => lv_has ls 3 [(2, .int (nI k)), (0, .ref ((ad i).1)), (1, .int x)] ∧ ∀ j, j < k → ¬ nI (ps i j) = x) (fun k ls hkk hI ihk => ?_) 0 ls (Nat.zero_le _) ⟨(lv_sub hl [0, 1, 2] rfl), fun j hj => absurd hj (Nat.not_lt_zero j)⟩
  obtain ⟨hl, hm⟩ := hI
  refine lv_iload_n hx hb dX0_slotOf_2 rfl (lv_at hl 0 rfl) ?_
  refine lv_aload_n hx hb dX0_slotOf_3 rfl (lv_at hl 1 rfl) ?_
  refine gII_used C hP hi dX0_slotOf_4 ?_
  refine lv_icmp_ge (tgt := 28) hx hb dX0_slotOf_7 (by decide) (fun c1 => ?_) (fun c1 => ?_)
  · have c1 : (us i) ≤ k := (nI_leI (by omega) (by omega)).mp c1
    refine lv_iconst (v := (-1)) hx hb dX0_slotOf_28 (by decide) ?_
    exact W.iret (v := (-1)) hx hb hr (fun t ht _ => ⟨rti (slR_no (fun j hj => hm j (by omega))), ht⟩) (fun q h => by cases h) dX0_slotOf_29
  · have c1 : ¬ (us i) ≤ k := fun z => c1 ((nI_leI (by omega) (by omega)).mpr z)
    refine lv_aload_n hx hb dX0_slotOf_10 rfl (lv_at hl 1 rfl) ?_
    refine gII_positions C hP hi dX0_slotOf_11 ?_
    refine lv_iload_n hx hb dX0_slotOf_14 rfl (lv_at hl 0 rfl) ?_
    refine lI_positions C hP hi (by omega) dX0_slotOf_15 ?_
    refine lv_iload_n hx hb dX0_slotOf_16 rfl (lv_at hl 2 rfl) ?_
    refine lv_icmp_ne (tgt := 22) hx hb dX0_slotOf_17 (by decide) (fun c2 => ?_) (fun c2 => ?_)
    · refine lv_iinc (v := nI (k + 1)) (lv' := [(2, .int (nI (k + 1))), (0, .ref ((ad i).1)), (1, .int x)]) hx hb dX0_slotOf_22 hl (k := 0) rfl (nI_1 k) (by decide) rfl (fun ls hl => ?_)
      refine lv_goto (tgt := 2) hx hb dX0_slotOf_25 (by decide) ?_
      exact ihk (by omega) ls ⟨(lv_sub hl [0, 1, 2] rfl), fun j hj => by
        by_cases ej : j = k
        · subst ej; exact c2
        · exact hm j (by omega)⟩
    · refine lv_iload_n hx hb dX0_slotOf_20 rfl (lv_at hl 0 rfl) ?_
      exact W.iret (v := nI k) hx hb hr (fun t ht _ => ⟨rti (slR_hit (by omega) c2 hm), ht⟩) (fun q h => by cases h) dX0_slotOf_21
set_option maxHeartbeats 4000000 in
set_option maxRecDepth 100000 in
/-- amountFor: the net that the slots say -/
theorem cI_amountFor (l : Launch) (hP : va_P D vwCl (dW R o K ad va fl af bl n tc sc T S us ps am) H) {i : Nat} (hi : i < n) (hu : us i ≤ 16) (x : Int32) : Met l yX0_amountFor (tC yX0_amountFor cX0_amountFor 3 (some .long)) (rmK 1 0 0) (kP D K H [.ref ((ad i).1), .int x]) (k2_QcV (.long (ntq (qx (ps i) x) (us i) (am i)))) 0 0 (fun _ => False) := by
  refine Met.ofW (cc := cX0_amountFor) (maxL := 3) (ret := (some .long)) (by decide) rfl ?_
  intro p e s m args below meth c s₁ B hml hv
  obtain ⟨rfl, hH, hK, hN, hO⟩ := hv
  have hx := B.exec
  have hb := B.bytes
  have hr := B.returns
  have hts : ∀ w ∈ tT, w.before _ s = true := fun w h => atoms_spec (ws := tC yX0_amountFor cX0_amountFor 3 (some .long)) B.pre w (List.mem_cons_of_mem _ h)
  have hown : s.vm.findClass RX0 = some m.cls := findClass_of_methodNamed B.named
  have hlocks := B.notSynchronized
  have C : cx RX0 D K p s m _ c cX0_amountFor := ⟨hx, hb, hown, hts, hK, hN, hO⟩
  have hR : rmOk (headSpec (tC yX0_amountFor cX0_amountFor 3 (some .long)) (rmK 1 0 0)).room 1 0 0 := ⟨Nat.le_refl _, Nat.le_refl _, Nat.le_refl _, Nat.le_refl _⟩
  subst hH
  have hl := lv_entry ([.ref ((ad i).1), .int x]) (n := 3) (Nat.le_of_ble_eq_true rfl)
  rw [lg_entry_eq]
  generalize (lg_sl ([.ref ((ad i).1), .int x]) ++ List.replicate (3 - (lg_sl ([.ref ((ad i).1), .int x])).length) Slot.unset).toArray = ls at hl ⊢
  have hl : lv_has ls 3 [(0, .ref ((ad i).1)), (1, .int x)] := hl
  refine lv_aload_n hx hb dX0_amountFor_0 rfl (lv_at hl 0 rfl) ?_
  refine lv_iload_n hx hb dX0_amountFor_1 rfl (lv_at hl 1 rfl) ?_
  refine pv (va_runV (As := [.int x]) (rest := []) ⟨hx, hb, hml, hown, hts⟩ (cI_slotOf l hP hi hu x) (cwV 1 hts gI_27 rfl rfl rfl (by decide +kernel) (rmF hR (by decide) (by decide))) (kP_V C (va_recv C.2.2.2.2.1 hP (ci := ciI) (q0 := 6 + (R.length + 3 * i)) rfl (dW_0 hi))) rfl rfl hl.1 rfl (lv_room (Nat.le_of_ble_eq_true rfl)) dX0_amountFor_2 ⟨hR.2.2.1, hR.2.2.2⟩) ?_
  rcases slR_or (ps i) x (us i) with ⟨h1, e1⟩ | ⟨h1, e1⟩
  · refine tp_i (y := nI (fs (qx (ps i) x) (us i) 0)) (e1) ?_
    refine lv_istore_n (lv' := [(2, .int (nI (fs (qx (ps i) x) (us i) 0))), (0, .ref ((ad i).1)), (1, .int x)]) hx hb dX0_amountFor_5 rfl hl (by decide) rfl (fun ls hl => ?_)
    refine lv_iload_n hx hb dX0_amountFor_6 rfl (lv_at hl 0 rfl) ?_
    refine lv_if_ge (tgt := 14) hx hb dX0_amountFor_7 (by decide) (fun c1 => ?_) (fun c1 => ?_)
    · refine lv_aload_n hx hb dX0_amountFor_14 rfl (lv_at hl 1 rfl) ?_
      refine gII_amounts C hP hi dX0_amountFor_15 ?_
      refine lv_iload_n hx hb dX0_amountFor_18 rfl (lv_at hl 0 rfl) ?_
      refine lI_amounts C hP hi (by omega) dX0_amountFor_19 ?_
      exact W.lret (v := am i (fs (qx (ps i) x) (us i) 0)) hx hb hr (fun t ht _ => ⟨rtl (ntq_hit h1), ht⟩) (fun q h => by cases h) dX0_amountFor_20
    · exact absurd (nI_pos' (by omega)) c1
  · refine tp_i (y := (-1)) (e1) ?_
    refine lv_istore_n (lv' := [(2, .int (-1)), (0, .ref ((ad i).1)), (1, .int x)]) hx hb dX0_amountFor_5 rfl hl (by decide) rfl (fun ls hl => ?_)
    refine lv_iload_n hx hb dX0_amountFor_6 rfl (lv_at hl 0 rfl) ?_
    refine lv_if_ge (tgt := 14) hx hb dX0_amountFor_7 (by decide) (fun c1 => ?_) (fun c1 => ?_)
    · exact absurd c1 (by decide)
    · refine lv_lconst (v := 0) hx hb dX0_amountFor_10 (by decide) ?_
      refine lv_goto (tgt := 20) hx hb dX0_amountFor_11 (by decide) ?_
      exact W.lret (v := 0) hx hb hr (fun t ht _ => ⟨rtl (ntq_no h1), ht⟩) (fun q h => by cases h) dX0_amountFor_20
set_option maxHeartbeats 4000000 in
set_option maxRecDepth 100000 in
/-- addSlot, all slots used -/
theorem cI_addSlot_no (l : Launch) (hP : va_P D vwCl (dW R o K ad va fl af bl n tc sc T S us ps am) H) {i : Nat} (hi : i < n) (hu : 16 ≤ us i) (hu2 : us i ≤ 16) (x : Int32) (v : Int64) : Met l yX0_addSlot (tC yX0_addSlot cX0_addSlot 4 (some .boolean)) (rmK 0 0 0) (kP D K H [.ref ((ad i).1), .int x, .long v]) (k2_QcV (.int (nI 0))) 0 0 (fun _ => False) := by
  refine Met.ofW (cc := cX0_addSlot) (maxL := 4) (ret := (some .boolean)) (by decide) rfl ?_
  intro p e s m args below meth c s₁ B hml hv
  obtain ⟨rfl, hH, hK, hN, hO⟩ := hv
  have hx := B.exec
  have hb := B.bytes
  have hr := B.returns
  have hts : ∀ w ∈ tT, w.before _ s = true := fun w h => atoms_spec (ws := tC yX0_addSlot cX0_addSlot 4 (some .boolean)) B.pre w (List.mem_cons_of_mem _ h)
  have hown : s.vm.findClass RX0 = some m.cls := findClass_of_methodNamed B.named
  have hlocks := B.notSynchronized
  have C : cx RX0 D K p s m _ c cX0_addSlot := ⟨hx, hb, hown, hts, hK, hN, hO⟩
  have hR : rmOk (headSpec (tC yX0_addSlot cX0_addSlot 4 (some .boolean)) (rmK 0 0 0)).room 0 0 0 := ⟨Nat.le_refl _, Nat.le_refl _, Nat.le_refl _, Nat.le_refl _⟩
  subst hH
  have hl := lv_entry ([.ref ((ad i).1), .int x, .long v]) (n := 4) (Nat.le_of_ble_eq_true rfl)
  rw [lg_entry_eq]
  generalize (lg_sl ([.ref ((ad i).1), .int x, .long v]) ++ List.replicate (4 - (lg_sl ([.ref ((ad i).1), .int x, .long v])).length) Slot.unset).toArray = ls at hl ⊢
  have hl : lv_has ls 4 [(0, .ref ((ad i).1)), (1, .int x), (2, .long v)] := hl
  refine lv_aload_n hx hb dX0_addSlot_0 rfl (lv_at hl 0 rfl) ?_
  refine gII_used C hP hi dX0_addSlot_1 ?_
  refine lv_bipush (v := nI 16) hx hb dX0_addSlot_4 (by decide) ?_
  refine lv_icmp_lt (tgt := 11) hx hb dX0_addSlot_6 (by decide) (fun c1 => ?_) (fun c1 => ?_)
  · have c1 : (us i) < 16 := (nI_ltI (by omega) (by omega)).mp c1
    exact absurd c1 (by omega)
  · have c1 : ¬ (us i) < 16 := fun z => c1 ((nI_ltI (by omega) (by omega)).mpr z)
    refine lv_iconst (v := nI 0) hx hb dX0_addSlot_9 (by decide) ?_
    exact W.zret (v := nI 0) hx hb hr (by decide) (fun t ht _ => ⟨rfl, ht⟩) (fun q h => by cases h) dX0_addSlot_10
set_option maxHeartbeats 4000000 in
set_option maxRecDepth 100000 in
/-- addSlot: one more slot -/
theorem cI_addSlot (l : Launch) (hP : va_P D vwCl (dW R o K ad va fl af bl n tc sc T S us ps am) H) (hD : va_D A (dW R o K ad va fl af bl n tc sc T S us ps am)) {i : Nat} (hi : i < n) (hu : us i < 16) (q : Nat) (v : Int64) : Met l yX0_addSlot (tC yX0_addSlot cX0_addSlot 4 (some .boolean)) (rmK 0 0 0) (kP D K H [.ref ((ad i).1), .int (nI q), .long v]) (qI D A (fun (r : Int32) (u : Unit) => r = nI 1) (fun u : Unit => dW R o K ad va fl af bl n tc sc T S (va_up us i (us i + 1)) (va_up ps i (va_up (ps i) (us i) q)) (va_up am i (va_up (am i) (us i) v)))) 0 0 A := by
  refine Met.ofW (cc := cX0_addSlot) (maxL := 4) (ret := (some .boolean)) (by decide) rfl ?_
  intro p e s m args below meth c s₁ B hml hv
  obtain ⟨rfl, hH, hK, hN, hO⟩ := hv
  have hx := B.exec
  have hb := B.bytes
  have hr := B.returns
  have hts : ∀ w ∈ tT, w.before _ s = true := fun w h => atoms_spec (ws := tC yX0_addSlot cX0_addSlot 4 (some .boolean)) B.pre w (List.mem_cons_of_mem _ h)
  have hown : s.vm.findClass RX0 = some m.cls := findClass_of_methodNamed B.named
  have hlocks := B.notSynchronized
  have C : cx RX0 D K p s m _ c cX0_addSlot := ⟨hx, hb, hown, hts, hK, hN, hO⟩
  have hR : rmOk (headSpec (tC yX0_addSlot cX0_addSlot 4 (some .boolean)) (rmK 0 0 0)).room 0 0 0 := ⟨Nat.le_refl _, Nat.le_refl _, Nat.le_refl _, Nat.le_refl _⟩
  subst hH
  have hS : va_S A s.heap s.heap [] := va_S.rf
  have hl := lv_entry ([.ref ((ad i).1), .int (nI q), .long v]) (n := 4) (Nat.le_of_ble_eq_true rfl)
  rw [lg_entry_eq]
  generalize (lg_sl ([.ref ((ad i).1), .int (nI q), .long v]) ++ List.replicate (4 - (lg_sl ([.ref ((ad i).1), .int (nI q), .long v])).length) Slot.unset).toArray = ls at hl ⊢
  have hl : lv_has ls 4 [(0, .ref ((ad i).1)), (1, .int (nI q)), (2, .long v)] := hl
  refine lv_aload_n hx hb dX0_addSlot_0 rfl (lv_at hl 0 rfl) ?_
  refine gII_used C hP hi dX0_addSlot_1 ?_
  refine lv_bipush (v := nI 16) hx hb dX0_addSlot_4 (by decide) ?_
  refine lv_icmp_lt (tgt := 11) hx hb dX0_addSlot_6 (by decide) (fun c1 => ?_) (fun c1 => ?_)
  · have c1 : (us i) < 16 := (nI_ltI (by omega) (by omega)).mp c1
    refine lv_aload_n hx hb dX0_addSlot_11 rfl (lv_at hl 0 rfl) ?_
    refine gII_positions C hP hi dX0_addSlot_12 ?_
    refine lv_aload_n hx hb dX0_addSlot_15 rfl (lv_at hl 0 rfl) ?_
    refine gII_used C hP hi dX0_addSlot_16 ?_
    refine lv_iload_n hx hb dX0_addSlot_19 rfl (lv_at hl 1 rfl) ?_
    refine sI_positions C hP hD hS hi (by omega) dX0_addSlot_20 (fun H locs hP hD hS => ?_)
    refine lv_aload_n hx hb dX0_addSlot_21 rfl (lv_at hl 0 rfl) ?_
    refine gII_amounts C hP hi dX0_addSlot_22 ?_
    refine lv_aload_n hx hb dX0_addSlot_25 rfl (lv_at hl 0 rfl) ?_
    refine gII_used C hP hi dX0_addSlot_26 ?_
    refine lv_lload_n hx hb dX0_addSlot_29 rfl (lv_at hl 2 rfl) ?_
    refine sI_amounts C hP hD hS hi (by omega) dX0_addSlot_30 (fun H locs hP hD hS => ?_)
    refine lv_aload_n hx hb dX0_addSlot_31 rfl (lv_at hl 0 rfl) ?_
    refine lv_dup hx hb dX0_addSlot_32 rfl ?_
    refine gII_used C hP hi dX0_addSlot_33 ?_
    refine lv_iconst (v := nI 1) hx hb dX0_addSlot_36 (by decide) ?_
    refine lv_iadd hx hb dX0_addSlot_37 ?_
    refine tp_i (y := nI (us i + 1)) (nI_1 (us i)) ?_
    refine pI_used C hP hD hS hi dX0_addSlot_38 (fun H locs hP hD hS => ?_)
    refine lv_iconst (v := nI 1) hx hb dX0_addSlot_41 (by decide) ?_
    exact W.zret (v := nI 1) hx hb hr (by decide) (fun t ht _ => ⟨⟨_, (), rfl, rfl, by rw [ht]; exact hP, hD⟩, hS.F ht⟩) hS.2.2 dX0_addSlot_42
  · have c1 : ¬ (us i) < 16 := fun z => c1 ((nI_ltI (by omega) (by omega)).mpr z)
    exact absurd hu c1
set_option maxHeartbeats 4000000 in
set_option maxRecDepth 100000 in
/-- freeSlot: the last slot comes to its place -/
theorem cI_freeSlot (l : Launch) (hP : va_P D vwCl (dW R o K ad va fl af bl n tc sc T S us ps am) H) (hD : va_D A (dW R o K ad va fl af bl n tc sc T S us ps am)) {i k : Nat} (hi : i < n) (hu : us i ≤ 16) (hk : k < us i) : Met l yX0_freeSlot (tC yX0_freeSlot cX0_freeSlot 2 none) (rmK 0 0 0) (kP D K H [.ref ((ad i).1), .int (nI k)]) (qV D A (fun u : Unit => True) (fun u : Unit => dW R o K ad va fl af bl n tc sc T S (va_up us i (us i - 1)) (va_up ps i (va_up (ps i) k (ps i (us i - 1)))) (va_up am i (va_up (am i) k (am i (us i - 1)))))) 0 0 A := by
  refine Met.ofW (cc := cX0_freeSlot) (maxL := 2) (ret := none) (by decide) rfl ?_
  intro p e s m args below meth c s₁ B hml hv
  obtain ⟨rfl, hH, hK, hN, hO⟩ := hv
  have hx := B.exec
  have hb := B.bytes
  have hr := B.returns
  have hts : ∀ w ∈ tT, w.before _ s = true := fun w h => atoms_spec (ws := tC yX0_freeSlot cX0_freeSlot 2 none) B.pre w (List.mem_cons_of_mem _ h)
  have hown : s.vm.findClass RX0 = some m.cls := findClass_of_methodNamed B.named
  have hlocks := B.notSynchronized
  have C : cx RX0 D K p s m _ c cX0_freeSlot := ⟨hx, hb, hown, hts, hK, hN, hO⟩
  have hR : rmOk (headSpec (tC yX0_freeSlot cX0_freeSlot 2 none) (rmK 0 0 0)).room 0 0 0 := ⟨Nat.le_refl _, Nat.le_refl _, Nat.le_refl _, Nat.le_refl _⟩
  subst hH
  have hS : va_S A s.heap s.heap [] := va_S.rf
  have hl := lv_entry ([.ref ((ad i).1), .int (nI k)]) (n := 2) (Nat.le_of_ble_eq_true rfl)
  rw [lg_entry_eq]
  generalize (lg_sl ([.ref ((ad i).1), .int (nI k)]) ++ List.replicate (2 - (lg_sl ([.ref ((ad i).1), .int (nI k)])).length) Slot.unset).toArray = ls at hl ⊢
  have hl : lv_has ls 2 [(0, .ref ((ad i).1)), (1, .int (nI k))] := hl
  refine lv_aload_n hx hb dX0_freeSlot_0 rfl (lv_at hl 0 rfl) ?_
  refine lv_dup hx hb dX0_freeSlot_1 rfl ?_
  refine gII_used C hP hi dX0_freeSlot_2 ?_
  refine lv_iconst (v := nI 1) hx hb dX0_freeSlot_5 (by decide) ?_
  refine lv_isub hx hb dX0_freeSlot_6 ?_
  refine tp_i (y := nI (us i - 1)) (pk_sub (by omega)) ?_
  refine pI_used C hP hD hS hi dX0_freeSlot_7 (fun H locs hP hD hS => ?_)
  refine lv_aload_n hx hb dX0_freeSlot_10 rfl (lv_at hl 0 rfl) ?_
  refine gII_positions C hP hi dX0_freeSlot_11 ?_
  refine lv_iload_n hx hb dX0_freeSlot_14 rfl (lv_at hl 1 rfl) ?_
  refine lv_aload_n hx hb dX0_freeSlot_15 rfl (lv_at hl 0 rfl) ?_
  refine gII_positions C hP hi dX0_freeSlot_16 ?_
  refine lv_aload_n hx hb dX0_freeSlot_19 rfl (lv_at hl 0 rfl) ?_
  refine gII_used C hP hi dX0_freeSlot_20 ?_
  refine tp_i (y := nI (us i - 1)) (congrArg nI (va_up_self us i (us i - 1))) ?_
  refine lI_positions C hP hi (by omega) dX0_freeSlot_23 ?_
  refine sI_positions C hP hD hS hi (by omega) dX0_freeSlot_24 (fun H locs hP hD hS => ?_)
  refine lv_aload_n hx hb dX0_freeSlot_25 rfl (lv_at hl 0 rfl) ?_
  refine gII_amounts C hP hi dX0_freeSlot_26 ?_
  refine lv_iload_n hx hb dX0_freeSlot_29 rfl (lv_at hl 1 rfl) ?_
  refine lv_aload_n hx hb dX0_freeSlot_30 rfl (lv_at hl 0 rfl) ?_
  refine gII_amounts C hP hi dX0_freeSlot_31 ?_
  refine lv_aload_n hx hb dX0_freeSlot_34 rfl (lv_at hl 0 rfl) ?_
  refine gII_used C hP hi dX0_freeSlot_35 ?_
  refine tp_i (y := nI (us i - 1)) (congrArg nI (va_up_self us i (us i - 1))) ?_
  refine lI_amounts C hP hi (by omega) dX0_freeSlot_38 ?_
  refine sI_amounts C hP hD hS hi (by omega) dX0_freeSlot_39 (fun H locs hP hD hS => ?_)
  exact W.vret hx hb hr (fun t ht _ => ⟨⟨(), rfl, trivial, by rw [ht]; exact hP, hD⟩, hS.F ht⟩) hS.2.2 dX0_freeSlot_40
end MI
