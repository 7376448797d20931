/-! GRIDDESK: the loops of the search -/
theorem ct_no {p : Nat → Nat} {a fl af : Nat → Int64} {bl : Nat → Bool} {u k : Nat} (hk : k < u) (h : ct_at p a fl af bl k = true) : ct p a u fl af bl = false := decide_eq_false (fun z => by rw [z k hk] at h; cases h)
theorem ct_yes {p : Nat → Nat} {a fl af : Nat → Int64} {bl : Nat → Bool} {u : Nat} (h : ∀ k, k < u → ct_at p a fl af bl k = false) : ct p a u fl af bl = true := decide_eq_true h
theorem ct_1 {p : Nat → Nat} {a fl af : Nat → Int64} {bl : Nat → Bool} {k : Nat} (h1 : a k < 0) (h2 : bl (p k) = true) : ct_at p a fl af bl k = true := by unfold ct_at; rw [decide_eq_true h1, h2]; rfl
theorem ct_2 {p : Nat → Nat} {a fl af : Nat → Int64} {bl : Nat → Bool} {k : Nat} (h1 : a k < 0) (h3 : af (p k) + a k < fl (p k)) : ct_at p a fl af bl k = true := by unfold ct_at; rw [decide_eq_true h1, decide_eq_true h3, Bool.or_true]; rfl
theorem ct_0 {p : Nat → Nat} {a fl af : Nat → Int64} {bl : Nat → Bool} {k : Nat} (h1 : ¬ a k < 0) : ct_at p a fl af bl k = false := by unfold ct_at; rw [decide_eq_false h1]; rfl
theorem ct_3 {p : Nat → Nat} {a fl af : Nat → Int64} {bl : Nat → Bool} {k : Nat} (h2 : bl (p k) = false) (h3 : ¬ af (p k) + a k < fl (p k)) : ct_at p a fl af bl k = false := by unfold ct_at; rw [h2, decide_eq_false h3, Bool.or_false, Bool.and_false]
theorem lt_s' {k : Nat} {P : Nat → Prop} (h : ∀ j, j < k → P j) (hk : P k) : ∀ j, j < k + 1 → P j := fun j hj => by
  by_cases e : j = k
  · rw [e]; exact hk
  · exact h j (by omega)
def vfN (af : Nat → Int64) (m : Nat) : Bool := decide (∀ p, p < m → decide (1000000000000000000 < af p) = false)
abbrev vfB (af : Nat → Int64) : Bool := vfN af 300
section MD2
variable {D : va_G} {K : Nat → ClassId} {H : Heap} {A : Nat → Prop} {R : va_W} {o : Nat → Nat} {ad : Nat → Nat × Nat × Nat} {va fl af : Nat → Int64} {bl : Nat → Bool} {n tc sc : Nat} {T S : Nat → Bool} {us : Nat → Nat} {ps : Nat → Nat → Nat} {am : Nat → Nat → Int64}
set_option maxHeartbeats 1000000 in
set_option maxRecDepth 100000 in
theorem cD_startWithAllThere (l : Launch) (hP : va_P D vwCl (dW R o K ad va fl af bl n tc sc T S us ps am) H) (hD : va_D A (dW R o K ad va fl af bl n tc sc T S us ps am)) (hn200 : n ≤ 200) : Met l yX1_startWithAllThere (tC yX1_startWithAllThere cX1_startWithAllThere 3 none) (rmK 0 0 0) (kP D K H [.ref (o 0)]) (qV D A (fun u : Unit => True) (fun u : Unit => dW R o K ad va fl af bl n tc tc T (st_s T S n) us ps am)) 0 0 A := by
  refine Met.ofW (cc := cX1_startWithAllThere) (maxL := 3) (ret := none) (by decide) rfl ?_
  intro p e s m args below meth c s₁ B hml hv
  obtain ⟨rfl, hH, hK, hN, hO⟩ := hv
  have hx := B.exec
  have hb := B.bytes
  have hr := B.returns
  have hts : ∀ w ∈ tT, w.before _ s = true := fun w h => atoms_spec (ws := tC yX1_startWithAllThere cX1_startWithAllThere 3 none) B.pre w (List.mem_cons_of_mem _ h)
  have hown : s.vm.findClass RX1 = some m.cls := findClass_of_methodNamed B.named
  have hlocks := B.notSynchronized
  have C : cx RX1 D K p s m _ c cX1_startWithAllThere := ⟨hx, hb, hown, hts, hK, hN, hO⟩
  have hR : rmOk (headSpec (tC yX1_startWithAllThere cX1_startWithAllThere 3 none) (rmK 0 0 0)).room 0 0 0 := ⟨Nat.le_refl _, Nat.le_refl _, Nat.le_refl _, Nat.le_refl _⟩
  subst hH
  have hS : va_S A s.heap s.heap [] := va_S.rf
  have hl := lv_entry ([.ref (o 0)]) (n := 3) (Nat.le_of_ble_eq_true rfl)
  rw [lg_entry_eq]
  generalize (lg_sl ([.ref (o 0)]) ++ List.replicate (3 - (lg_sl ([.ref (o 0)])).length) Slot.unset).toArray = ls at hl ⊢
  have hl : lv_has ls 3 [(0, .ref (o 0))] := hl
  refine lv_iconst (v := nI 0) hx hb dX1_startWithAllThere_0 (by decide) ?_
  refine lv_istore_n (lv' := [(1, .int (nI 0)), (0, .ref (o 0))]) hx hb dX1_startWithAllThere_1 rfl hl (by decide) rfl (fun ls hl => ?_)
  refine lpM (U := n) (pcH := 2) (I := fun k ls H locs => lv_has ls 3 [(1, .int (nI k)), (0, .ref (o 0))] ∧ va_P D vwCl (dW R o K ad va fl af bl n tc sc T (st_s T S k) us ps am) H ∧ va_D A (dW R o K ad va fl af bl n tc sc T (st_s T S k) us ps am) ∧ va_S A s.heap H locs) (fun k ls H locs hkk hI ihk => ?_) 0 ls _ _ (Nat.zero_le _) ⟨(lv_sub hl [0, 1] rfl), hP, hD, hS⟩
  obtain ⟨hl, hP, hD, hS⟩ := hI
  refine lv_iload_n hx hb dX1_startWithAllThere_2 rfl (lv_at hl 0 rfl) ?_
  refine lv_aload_n hx hb dX1_startWithAllThere_3 rfl (lv_at hl 1 rfl) ?_
  refine gD_itemCount C hP dX1_startWithAllThere_4 ?_
  refine lv_icmp_ge (tgt := 35) hx hb dX1_startWithAllThere_7 (by decide) (fun c1 => ?_) (fun c1 => ?_)
  · have c1 : n ≤ k := (nI_leI (by omega) (by omega)).mp c1
    rw [show k = n by omega] at hP hD
    refine lv_aload_n hx hb dX1_startWithAllThere_35 rfl (lv_at hl 1 rfl) ?_
    refine lv_aload_n hx hb dX1_startWithAllThere_36 rfl (lv_at hl 1 rfl) ?_
    refine gD_thereCount C hP dX1_startWithAllThere_37 ?_
    refine pD_setCount C hP hD hS dX1_startWithAllThere_40 (fun H locs hP hD hS => ?_)
    exact W.vret hx hb hr (fun t ht _ => ⟨⟨(), rfl, trivial, by rw [ht]; exact hP, hD⟩, hS.F ht⟩) hS.2.2 dX1_startWithAllThere_43
  · have c1 : ¬ n ≤ k := fun z9 => c1 ((nI_leI (by omega) (by omega)).mpr z9)
    refine lv_aload_n hx hb dX1_startWithAllThere_10 rfl (lv_at hl 1 rfl) ?_
    refine gD_items C hP dX1_startWithAllThere_11 ?_
    refine lv_iload_n hx hb dX1_startWithAllThere_14 rfl (lv_at hl 0 rfl) ?_
    refine lD_items C hP hn200 (by omega) dX1_startWithAllThere_15 ?_
    refine lv_astore_n (lv' := [(2, .ref ((ad k).1)), (1, .int (nI k)), (0, .ref (o 0))]) hx hb dX1_startWithAllThere_16 rfl hl (by decide) rfl (fun ls hl => ?_)
    refine lv_aload_n hx hb dX1_startWithAllThere_17 rfl (lv_at hl 0 rfl) ?_
    refine lv_ifnull hx hb dX1_startWithAllThere_18 ?_
    refine lv_aload_n hx hb dX1_startWithAllThere_21 rfl (lv_at hl 0 rfl) ?_
    refine lv_aload_n hx hb dX1_startWithAllThere_22 rfl (lv_at hl 0 rfl) ?_
    refine gDI_there C hP (by omega) dX1_startWithAllThere_23 ?_
    refine pDI_inSet C hP hD hS (by omega) dX1_startWithAllThere_26 (fun H locs hP hD hS => ?_)
    refine lv_iinc (v := nI (k + 1)) (lv' := [(1, .int (nI (k + 1))), (2, .ref ((ad k).1)), (0, .ref (o 0))]) hx hb dX1_startWithAllThere_29 hl (k := 1) rfl (nI_1 k) (by decide) rfl (fun ls hl => ?_)
    refine lv_goto (tgt := 2) hx hb dX1_startWithAllThere_32 (by decide) ?_
    have e_S : (st_s T S (k + 1)) = (va_up (st_s T S k) k (T k)) := rfl
    rw [← e_S] at hP hD
    exact ihk (by omega) ls _ _ ⟨(lv_sub hl [0, 2] rfl), hP, hD, hS⟩
set_option maxHeartbeats 1000000 in
set_option maxRecDepth 100000 in
theorem cD_startRows (l : Launch) (hP : va_P D vwCl (dW R o K ad va fl af bl n tc sc T S us ps am) H) (hD : va_D A (dW R o K ad va fl af bl n tc sc T S us ps am))  : Met l yX1_startRows (tC yX1_startRows cX1_startRows 2 none) (rmK 0 0 0) (kP D K H [.ref (o 0)]) (qV D A (fun u : Unit => True) (fun u : Unit => dW R o K ad va fl (sr_a va af 300) (sr_b bl 300) n tc sc T S us ps am)) 0 0 A := by
  refine Met.ofW (cc := cX1_startRows) (maxL := 2) (ret := none) (by decide) rfl ?_
  intro p e s m args below meth c s₁ B hml hv
  obtain ⟨rfl, hH, hK, hN, hO⟩ := hv
  have hx := B.exec
  have hb := B.bytes
  have hr := B.returns
  have hts : ∀ w ∈ tT, w.before _ s = true := fun w h => atoms_spec (ws := tC yX1_startRows cX1_startRows 2 none) B.pre w (List.mem_cons_of_mem _ h)
  have hown : s.vm.findClass RX1 = some m.cls := findClass_of_methodNamed B.named
  have hlocks := B.notSynchronized
  have C : cx RX1 D K p s m _ c cX1_startRows := ⟨hx, hb, hown, hts, hK, hN, hO⟩
  have hR : rmOk (headSpec (tC yX1_startRows cX1_startRows 2 none) (rmK 0 0 0)).room 0 0 0 := ⟨Nat.le_refl _, Nat.le_refl _, Nat.le_refl _, Nat.le_refl _⟩
  subst hH
  have hS : va_S A s.heap s.heap [] := va_S.rf
  have hl := lv_entry ([.ref (o 0)]) (n := 2) (Nat.le_of_ble_eq_true rfl)
  rw [lg_entry_eq]
  generalize (lg_sl ([.ref (o 0)]) ++ List.replicate (2 - (lg_sl ([.ref (o 0)])).length) Slot.unset).toArray = ls at hl ⊢
  have hl : lv_has ls 2 [(0, .ref (o 0))] := hl
  refine lv_iconst (v := nI 0) hx hb dX1_startRows_0 (by decide) ?_
  refine lv_istore_n (lv' := [(1, .int (nI 0)), (0, .ref (o 0))]) hx hb dX1_startRows_1 rfl hl (by decide) rfl (fun ls hl => ?_)
  refine lpM (U := 300) (pcH := 2) (I := fun k ls H locs => lv_has ls 2 [(1, .int (nI k)), (0, .ref (o 0))] ∧ va_P D vwCl (dW R o K ad va fl (sr_a va af k) (sr_b bl k) n tc sc T S us ps am) H ∧ va_D A (dW R o K ad va fl (sr_a va af k) (sr_b bl k) n tc sc T S us ps am) ∧ va_S A s.heap H locs) (fun k ls H locs hkk hI ihk => ?_) 0 ls _ _ (Nat.zero_le _) ⟨(lv_sub hl [0, 1] rfl), hP, hD, hS⟩
  obtain ⟨hl, hP, hD, hS⟩ := hI
  refine lv_iload_n hx hb dX1_startRows_2 rfl (lv_at hl 0 rfl) ?_
  refine lv_sipush (v := nI 300) hx hb dX1_startRows_3 (by decide) ?_
  refine lv_icmp_ge (tgt := 34) hx hb dX1_startRows_6 (by decide) (fun c1 => ?_) (fun c1 => ?_)
  · have c1 : 300 ≤ k := (nI_leI (by omega) (by omega)).mp c1
    rw [show k = 300 by omega] at hP hD
    exact W.vret hx hb hr (fun t ht _ => ⟨⟨(), rfl, trivial, by rw [ht]; exact hP, hD⟩, hS.F ht⟩) hS.2.2 dX1_startRows_34
  · have c1 : ¬ 300 ≤ k := fun z9 => c1 ((nI_leI (by omega) (by omega)).mpr z9)
    refine lv_aload_n hx hb dX1_startRows_9 rfl (lv_at hl 1 rfl) ?_
    refine gD_after C hP dX1_startRows_10 ?_
    refine lv_iload_n hx hb dX1_startRows_13 rfl (lv_at hl 0 rfl) ?_
    refine lv_aload_n hx hb dX1_startRows_14 rfl (lv_at hl 1 rfl) ?_
    refine gD_values C hP dX1_startRows_15 ?_
    refine lv_iload_n hx hb dX1_startRows_18 rfl (lv_at hl 0 rfl) ?_
    refine lD_values C hP (by omega) dX1_startRows_19 ?_
    refine sD_after (x := va k) C hP hD hS (by omega) dX1_startRows_20 (fun H locs hP hD hS => ?_)
    refine lv_aload_n hx hb dX1_startRows_21 rfl (lv_at hl 1 rfl) ?_
    refine gD_blocked C hP dX1_startRows_22 ?_
    refine lv_iload_n hx hb dX1_startRows_25 rfl (lv_at hl 0 rfl) ?_
    refine lv_iconst (v := nI 0) hx hb dX1_startRows_26 (by decide) ?_
    refine tp_i (y := bI false) (b0 rfl) ?_
    refine sD_blocked (x := false) C hP hD hS (by omega) dX1_startRows_27 (fun H locs hP hD hS => ?_)
    refine lv_iinc (v := nI (k + 1)) (lv' := [(1, .int (nI (k + 1))), (0, .ref (o 0))]) hx hb dX1_startRows_28 hl (k := 0) rfl (nI_1 k) (by decide) rfl (fun ls hl => ?_)
    refine lv_goto (tgt := 2) hx hb dX1_startRows_31 (by decide) ?_
    have e_af : (sr_a va af (k + 1)) = (va_up (sr_a va af k) k (va k)) := rfl
    rw [← e_af] at hP hD
    have e_bl : (sr_b bl (k + 1)) = (va_up (sr_b bl k) k false) := rfl
    rw [← e_bl] at hP hD
    exact ihk (by omega) ls _ _ ⟨(lv_sub hl [0, 1] rfl), hP, hD, hS⟩
set_option maxHeartbeats 1000000 in
set_option maxRecDepth 100000 in
theorem cD_giveAll (l : Launch) (hP : va_P D vwCl (dW R o K ad va fl af bl n tc sc T S us ps am) H) (hD : va_D A (dW R o K ad va fl af bl n tc sc T S us ps am)) (hn200 : n ≤ 200) (hu : ∀ i, i < n → us i ≤ 16) (hp : ∀ i k, i < n → k < us i → ps i k < 300) : Met l yX1_giveAll (tC yX1_giveAll cX1_giveAll 4 none) (rmK 0 0 0) (kP D K H [.ref (o 0)]) (qV D A (fun u : Unit => True) (fun u : Unit => dW R o K ad va fl (gv_out us ps am S af n) bl n tc sc T S us ps am)) 0 0 A := by
  refine Met.ofW (cc := cX1_giveAll) (maxL := 4) (ret := none) (by decide) rfl ?_
  intro p e s m args below meth c s₁ B hml hv
  obtain ⟨rfl, hH, hK, hN, hO⟩ := hv
  have hx := B.exec
  have hb := B.bytes
  have hr := B.returns
  have hts : ∀ w ∈ tT, w.before _ s = true := fun w h => atoms_spec (ws := tC yX1_giveAll cX1_giveAll 4 none) B.pre w (List.mem_cons_of_mem _ h)
  have hown : s.vm.findClass RX1 = some m.cls := findClass_of_methodNamed B.named
  have hlocks := B.notSynchronized
  have C : cx RX1 D K p s m _ c cX1_giveAll := ⟨hx, hb, hown, hts, hK, hN, hO⟩
  have hR : rmOk (headSpec (tC yX1_giveAll cX1_giveAll 4 none) (rmK 0 0 0)).room 0 0 0 := ⟨Nat.le_refl _, Nat.le_refl _, Nat.le_refl _, Nat.le_refl _⟩
  subst hH
  have hS : va_S A s.heap s.heap [] := va_S.rf
  have hl := lv_entry ([.ref (o 0)]) (n := 4) (Nat.le_of_ble_eq_true rfl)
  rw [lg_entry_eq]
  generalize (lg_sl ([.ref (o 0)]) ++ List.replicate (4 - (lg_sl ([.ref (o 0)])).length) Slot.unset).toArray = ls at hl ⊢
  have hl : lv_has ls 4 [(0, .ref (o 0))] := hl
  refine lv_iconst (v := nI 0) hx hb dX1_giveAll_0 (by decide) ?_
  refine lv_istore_n (lv' := [(1, .int (nI 0)), (0, .ref (o 0))]) hx hb dX1_giveAll_1 rfl hl (by decide) rfl (fun ls hl => ?_)
  refine lpM (U := n) (pcH := 2) (I := fun i ls H locs => lv_has ls 4 [(1, .int (nI i)), (0, .ref (o 0))] ∧ va_P D vwCl (dW R o K ad va fl (gv_out us ps am S af i) bl n tc sc T S us ps am) H ∧ va_D A (dW R o K ad va fl (gv_out us ps am S af i) bl n tc sc T S us ps am) ∧ va_S A s.heap H locs) (fun i ls H locs hki hI ihi => ?_) 0 ls _ _ (Nat.zero_le _) ⟨(lv_sub hl [0, 1] rfl), hP, hD, hS⟩
  obtain ⟨hl, hP, hD, hS⟩ := hI
  refine lv_iload_n hx hb dX1_giveAll_2 rfl (lv_at hl 0 rfl) ?_
  refine lv_aload_n hx hb dX1_giveAll_3 rfl (lv_at hl 1 rfl) ?_
  refine gD_itemCount C hP dX1_giveAll_4 ?_
  refine lv_icmp_ge (tgt := 84) hx hb dX1_giveAll_7 (by decide) (fun c1 => ?_) (fun c1 => ?_)
  · have c1 : n ≤ i := (nI_leI (by omega) (by omega)).mp c1
    rw [show i = n by omega] at hP hD
    exact W.vret hx hb hr (fun t ht _ => ⟨⟨(), rfl, trivial, by rw [ht]; exact hP, hD⟩, hS.F ht⟩) hS.2.2 dX1_giveAll_84
  · have c1 : ¬ n ≤ i := fun z9 => c1 ((nI_leI (by omega) (by omega)).mpr z9)
    refine lv_aload_n hx hb dX1_giveAll_10 rfl (lv_at hl 1 rfl) ?_
    refine gD_items C hP dX1_giveAll_11 ?_
    refine lv_iload_n hx hb dX1_giveAll_14 rfl (lv_at hl 0 rfl) ?_
    refine lD_items C hP hn200 (by omega) dX1_giveAll_15 ?_
    refine lv_astore_n (lv' := [(2, .ref ((ad i).1)), (1, .int (nI i)), (0, .ref (o 0))]) hx hb dX1_giveAll_16 rfl hl (by decide) rfl (fun ls hl => ?_)
    refine lv_aload_n hx hb dX1_giveAll_17 rfl (lv_at hl 0 rfl) ?_
    refine lv_ifnull hx hb dX1_giveAll_18 ?_
    refine lv_aload_n hx hb dX1_giveAll_21 rfl (lv_at hl 0 rfl) ?_
    refine gDI_inSet C hP (by omega) dX1_giveAll_22 ?_
    refine lv_if_ne (tgt := 31) hx hb dX1_giveAll_25 (by decide) (fun c2 => ?_) (fun c2 => ?_)
    · have c2 : (S i) = true := (bI_nz (S i)).mp c2
      have hui := hu i (by omega)
      refine lv_iconst (v := nI 0) hx hb dX1_giveAll_31 (by decide) ?_
      refine lv_istore_n (lv' := [(3, .int (nI 0)), (2, .ref ((ad i).1)), (1, .int (nI i)), (0, .ref (o 0))]) hx hb dX1_giveAll_32 rfl hl (by decide) rfl (fun ls hl => ?_)
      refine lpM (U := us i) (pcH := 33) (I := fun k ls H locs => lv_has ls 4 [(3, .int (nI k)), (2, .ref ((ad i).1)), (1, .int (nI i)), (0, .ref (o 0))] ∧ va_P D vwCl (dW R o K ad va fl (gv_in (ps i) (am i) (gv_out us ps am S af i) k) bl n tc sc T S us ps am) H ∧ va_D A (dW R o K ad va fl (gv_in (ps i) (am i) (gv_out us ps am S af i) k) bl n tc sc T S us ps am) ∧ va_S A s.heap H locs) (fun k ls H locs hkk hI ihk => ?_) 0 ls _ _ (Nat.zero_le _) ⟨(lv_sub hl [0, 1, 2, 3] rfl), hP, hD, hS⟩
      obtain ⟨hl, hP, hD, hS⟩ := hI
      refine lv_iload_n hx hb dX1_giveAll_33 rfl (lv_at hl 0 rfl) ?_
      refine lv_aload_n hx hb dX1_giveAll_34 rfl (lv_at hl 1 rfl) ?_
      refine gDI_used C hP (by omega) dX1_giveAll_35 ?_
      refine lv_icmp_ge (tgt := 78) hx hb dX1_giveAll_38 (by decide) (fun c3 => ?_) (fun c3 => ?_)
      · have c3 : (us i) ≤ k := (nI_leI (by omega) (by omega)).mp c3
        rw [show k = us i by omega] at hP hD
        refine lv_iinc (v := nI (i + 1)) (lv' := [(1, .int (nI (i + 1))), (3, .int (nI k)), (2, .ref ((ad i).1)), (0, .ref (o 0))]) hx hb dX1_giveAll_78 hl (k := 2) rfl (nI_1 i) (by decide) rfl (fun ls hl => ?_)
        refine lv_goto (tgt := 2) hx hb dX1_giveAll_81 (by decide) ?_
        have e_af : (gv_out us ps am S af (i + 1)) = (gv_in (ps i) (am i) (gv_out us ps am S af i) (us i)) := if_pos c2
        rw [← e_af] at hP hD
        exact ihi (by omega) ls _ _ ⟨(lv_sub hl [0, 3] rfl), hP, hD, hS⟩
      · have c3 : ¬ (us i) ≤ k := fun z9 => c3 ((nI_leI (by omega) (by omega)).mpr z9)
        have hpk := hp i k (by omega) (by omega)
        refine lv_aload_n hx hb dX1_giveAll_41 rfl (lv_at hl 1 rfl) ?_
        refine gDI_amounts C hP (by omega) dX1_giveAll_42 ?_
        refine lv_iload_n hx hb dX1_giveAll_45 rfl (lv_at hl 0 rfl) ?_
        refine lI_amounts C hP (by omega) (by omega) dX1_giveAll_46 ?_
        refine lv_lconst (v := 0) hx hb dX1_giveAll_47 (by decide) ?_
        refine W.lcmp hx hb dX1_giveAll_48 ?_
        refine lv_if_le (tgt := 72) hx hb dX1_giveAll_49 (by decide) (fun c4 => ?_) (fun c4 => ?_)
        · have c4 : (am i k) ≤ 0 := (lg_cmp_le (am i k) 0).mp c4
          refine lv_iinc (v := nI (k + 1)) (lv' := [(3, .int (nI (k + 1))), (2, .ref ((ad i).1)), (1, .int (nI i)), (0, .ref (o 0))]) hx hb dX1_giveAll_72 hl (k := 0) rfl (nI_1 k) (by decide) rfl (fun ls hl => ?_)
          refine lv_goto (tgt := 33) hx hb dX1_giveAll_75 (by decide) ?_
          have e_af : (gv_in (ps i) (am i) (gv_out us ps am S af i) (k + 1)) = (gv_in (ps i) (am i) (gv_out us ps am S af i) k) := if_neg (i64_le_nlt c4)
          rw [← e_af] at hP hD
          exact ihk (by omega) ls _ _ ⟨(lv_sub hl [0, 1, 2, 3] rfl), hP, hD, hS⟩
        · have c4 : ¬ (am i k) ≤ 0 := fun z9 => c4 ((lg_cmp_le (am i k) 0).mpr z9)
          refine lv_aload_n hx hb dX1_giveAll_52 rfl (lv_at hl 3 rfl) ?_
          refine gD_after C hP dX1_giveAll_53 ?_
          refine lv_aload_n hx hb dX1_giveAll_56 rfl (lv_at hl 1 rfl) ?_
          refine gDI_positions C hP (by omega) dX1_giveAll_57 ?_
          refine lv_iload_n hx hb dX1_giveAll_60 rfl (lv_at hl 0 rfl) ?_
          refine lI_positions C hP (by omega) (by omega) dX1_giveAll_61 ?_
          refine lv_dup2_11 hx hb dX1_giveAll_62 rfl rfl ?_
          refine lD_after C hP (by omega) dX1_giveAll_63 ?_
          refine lv_aload_n hx hb dX1_giveAll_64 rfl (lv_at hl 1 rfl) ?_
          refine gDI_amounts C hP (by omega) dX1_giveAll_65 ?_
          refine lv_iload_n hx hb dX1_giveAll_68 rfl (lv_at hl 0 rfl) ?_
          refine lI_amounts C hP (by omega) (by omega) dX1_giveAll_69 ?_
          refine lv_ladd hx hb dX1_giveAll_70 ?_
          refine sD_after (x := ((gv_in (ps i) (am i) (gv_out us ps am S af i) k) (ps i k)) + (am i k)) C hP hD hS hpk dX1_giveAll_71 (fun H locs hP hD hS => ?_)
          refine lv_iinc (v := nI (k + 1)) (lv' := [(3, .int (nI (k + 1))), (2, .ref ((ad i).1)), (1, .int (nI i)), (0, .ref (o 0))]) hx hb dX1_giveAll_72 hl (k := 0) rfl (nI_1 k) (by decide) rfl (fun ls hl => ?_)
          refine lv_goto (tgt := 33) hx hb dX1_giveAll_75 (by decide) ?_
          have e_af : (gv_in (ps i) (am i) (gv_out us ps am S af i) (k + 1)) = (va_up (gv_in (ps i) (am i) (gv_out us ps am S af i) k) (ps i k) (((gv_in (ps i) (am i) (gv_out us ps am S af i) k) (ps i k)) + (am i k))) := if_pos (i64_nle c4)
          rw [← e_af] at hP hD
          exact ihk (by omega) ls _ _ ⟨(lv_sub hl [0, 1, 2, 3] rfl), hP, hD, hS⟩
    · have c2 : (S i) = false := (bI_z (S i)).mp c2
      refine lv_goto (tgt := 78) hx hb dX1_giveAll_28 (by decide) ?_
      refine lv_iinc (v := nI (i + 1)) (lv' := [(1, .int (nI (i + 1))), (2, .ref ((ad i).1)), (0, .ref (o 0))]) hx hb dX1_giveAll_78 hl (k := 1) rfl (nI_1 i) (by decide) rfl (fun ls hl => ?_)
      refine lv_goto (tgt := 2) hx hb dX1_giveAll_81 (by decide) ?_
      have e_af : (gv_out us ps am S af (i + 1)) = (gv_out us ps am S af i) := if_neg (by rw [c2]; decide)
      rw [← e_af] at hP hD
      exact ihi (by omega) ls _ _ ⟨(lv_sub hl [0, 2] rfl), hP, hD, hS⟩
set_option maxHeartbeats 1000000 in
set_option maxRecDepth 100000 in
theorem cD_canTake (l : Launch) (hP : va_P D vwCl (dW R o K ad va fl af bl n tc sc T S us ps am) H) {i : Nat} (hi : i < n) (hui : us i ≤ 16) (hp : ∀ k, k < us i → ps i k < 300) : Met l yX1_canTake (tC yX1_canTake cX1_canTake 6 (some .boolean)) (rmK 0 0 0) (kP D K H [.ref (o 0), .ref ((ad i).1)]) (k2_QcV (.int (bI (ct (ps i) (am i) (us i) fl af bl)))) 0 0 (fun _ => False) := by
  refine Met.ofW (cc := cX1_canTake) (maxL := 6) (ret := (some .boolean)) (by decide) rfl ?_
  intro p e s m args below meth c s₁ B hml hv
  obtain ⟨rfl, hH, hK, hN, hO⟩ := hv
  have hx := B.exec
  have hb := B.bytes
  have hr := B.returns
  have hts : ∀ w ∈ tT, w.before _ s = true := fun w h => atoms_spec (ws := tC yX1_canTake cX1_canTake 6 (some .boolean)) B.pre w (List.mem_cons_of_mem _ h)
  have hown : s.vm.findClass RX1 = some m.cls := findClass_of_methodNamed B.named
  have hlocks := B.notSynchronized
  have C : cx RX1 D K p s m _ c cX1_canTake := ⟨hx, hb, hown, hts, hK, hN, hO⟩
  have hR : rmOk (headSpec (tC yX1_canTake cX1_canTake 6 (some .boolean)) (rmK 0 0 0)).room 0 0 0 := ⟨Nat.le_refl _, Nat.le_refl _, Nat.le_refl _, Nat.le_refl _⟩
  subst hH
  have hl := lv_entry ([.ref (o 0), .ref ((ad i).1)]) (n := 6) (Nat.le_of_ble_eq_true rfl)
  rw [lg_entry_eq]
  generalize (lg_sl ([.ref (o 0), .ref ((ad i).1)]) ++ List.replicate (6 - (lg_sl ([.ref (o 0), .ref ((ad i).1)])).length) Slot.unset).toArray = ls at hl ⊢
  have hl : lv_has ls 6 [(0, .ref (o 0)), (1, .ref ((ad i).1))] := hl
  refine lv_iconst (v := nI 0) hx hb dX1_canTake_0 (by decide) ?_
  refine lv_istore_n (lv' := [(2, .int (nI 0)), (0, .ref (o 0)), (1, .ref ((ad i).1))]) hx hb dX1_canTake_1 rfl hl (by decide) rfl (fun ls hl => ?_)
  refine lpW (U := us i) (pcH := 2) (I := fun k ls => lv_has ls 6 [(2, .int (nI k)), (0, .ref (o 0)), (1, .ref ((ad i).1))] ∧ ∀ j, j < k → ct_at (ps i) (am i) fl af bl j = false) (fun k ls hkk hI ihk => ?_) 0 ls (Nat.zero_le _) ⟨(lv_sub hl [0, 1, 2] rfl), fun j hj => absurd hj (Nat.not_lt_zero j)⟩
  obtain ⟨hl, hm⟩ := hI
  refine lv_iload_n hx hb dX1_canTake_2 rfl (lv_at hl 0 rfl) ?_
  refine lv_aload_n hx hb dX1_canTake_3 rfl (lv_at hl 2 rfl) ?_
  refine gDI_used C hP hi dX1_canTake_4 ?_
  refine lv_icmp_ge (tgt := 68) hx hb dX1_canTake_7 (by decide) (fun c1 => ?_) (fun c1 => ?_)
  · have c1 : (us i) ≤ k := (nI_leI (by omega) (by omega)).mp c1
    refine lv_iconst (v := nI 1) hx hb dX1_canTake_68 (by decide) ?_
    exact W.zret (v := nI 1) hx hb hr (by decide) (fun t ht _ => ⟨rt1 (ct_yes (fun j hj => hm j (by omega))), ht⟩) (fun q h => by cases h) dX1_canTake_69
  · have c1 : ¬ (us i) ≤ k := fun z9 => c1 ((nI_leI (by omega) (by omega)).mpr z9)
    have hpk := hp k (by omega)
    refine lv_aload_n hx hb dX1_canTake_10 rfl (lv_at hl 2 rfl) ?_
    refine gDI_positions C hP hi dX1_canTake_11 ?_
    refine lv_iload_n hx hb dX1_canTake_14 rfl (lv_at hl 0 rfl) ?_
    refine lI_positions C hP hi (by omega) dX1_canTake_15 ?_
    refine lv_istore_n (lv' := [(3, .int (nI (ps i k))), (2, .int (nI k)), (0, .ref (o 0)), (1, .ref ((ad i).1))]) hx hb dX1_canTake_16 rfl hl (by decide) rfl (fun ls hl => ?_)
    refine lv_aload_n hx hb dX1_canTake_17 rfl (lv_at hl 3 rfl) ?_
    refine gDI_amounts C hP hi dX1_canTake_18 ?_
    refine lv_iload_n hx hb dX1_canTake_21 rfl (lv_at hl 1 rfl) ?_
    refine lI_amounts C hP hi (by omega) dX1_canTake_22 ?_
    refine lv_lstore (lv' := [(4, .long (am i k)), (3, .int (nI (ps i k))), (2, .int (nI k)), (0, .ref (o 0)), (1, .ref ((ad i).1))]) hx hb dX1_canTake_23 hl (by decide) rfl (fun ls hl => ?_)
    refine lv_lload hx hb dX1_canTake_25 (lv_at hl 0 rfl) ?_
    refine lv_lconst (v := 0) hx hb dX1_canTake_27 (by decide) ?_
    refine W.lcmp hx hb dX1_canTake_28 ?_
    refine lv_if_ge (tgt := 62) hx hb dX1_canTake_29 (by decide) (fun c2 => ?_) (fun c2 => ?_)
    · have c2 : 0 ≤ (am i k) := (lg_cmp_ge (am i k) 0).mp c2
      refine lv_iinc (v := nI (k + 1)) (lv' := [(2, .int (nI (k + 1))), (4, .long (am i k)), (3, .int (nI (ps i k))), (0, .ref (o 0)), (1, .ref ((ad i).1))]) hx hb dX1_canTake_62 hl (k := 2) rfl (nI_1 k) (by decide) rfl (fun ls hl => ?_)
      refine lv_goto (tgt := 2) hx hb dX1_canTake_65 (by decide) ?_
      exact ihk (by omega) ls ⟨(lv_sub hl [0, 3, 4] rfl), lt_s' hm (ct_0 (i64_le_nlt c2))⟩
    · have c2 : ¬ 0 ≤ (am i k) := fun z9 => c2 ((lg_cmp_ge (am i k) 0).mpr z9)
      have c2 := i64_nle c2
      refine lv_aload_n hx hb dX1_canTake_32 rfl (lv_at hl 3 rfl) ?_
      refine gD_blocked C hP dX1_canTake_33 ?_
      refine lv_iload_n hx hb dX1_canTake_36 rfl (lv_at hl 1 rfl) ?_
      refine lD_blocked C hP (by omega) dX1_canTake_37 ?_
      refine lv_if_ne (tgt := 60) hx hb dX1_canTake_38 (by decide) (fun c3 => ?_) (fun c3 => ?_)
      · have c3 : (bl (ps i k)) = true := (bI_nz (bl (ps i k))).mp c3
        refine lv_iconst (v := nI 0) hx hb dX1_canTake_60 (by decide) ?_
        exact W.zret (v := nI 0) hx hb hr (by decide) (fun t ht _ => ⟨rt0 (ct_no (by omega) (ct_1 c2 c3)), ht⟩) (fun q h => by cases h) dX1_canTake_61
      · have c3 : (bl (ps i k)) = false := (bI_z (bl (ps i k))).mp c3
        refine lv_aload_n hx hb dX1_canTake_41 rfl (lv_at hl 3 rfl) ?_
        refine gD_after C hP dX1_canTake_42 ?_
        refine lv_iload_n hx hb dX1_canTake_45 rfl (lv_at hl 1 rfl) ?_
        refine lD_after C hP (by omega) dX1_canTake_46 ?_
        refine lv_lload hx hb dX1_canTake_47 (lv_at hl 0 rfl) ?_
        refine lv_ladd hx hb dX1_canTake_49 ?_
        refine lv_aload_n hx hb dX1_canTake_50 rfl (lv_at hl 3 rfl) ?_
        refine gD_floors C hP dX1_canTake_51 ?_
        refine lv_iload_n hx hb dX1_canTake_54 rfl (lv_at hl 1 rfl) ?_
        refine lD_floors C hP (by omega) dX1_canTake_55 ?_
        refine W.lcmp hx hb dX1_canTake_56 ?_
        refine lv_if_ge (tgt := 62) hx hb dX1_canTake_57 (by decide) (fun c4 => ?_) (fun c4 => ?_)
        · have c4 : (fl (ps i k)) ≤ ((af (ps i k)) + (am i k)) := (lg_cmp_ge ((af (ps i k)) + (am i k)) (fl (ps i k))).mp c4
          refine lv_iinc (v := nI (k + 1)) (lv' := [(2, .int (nI (k + 1))), (4, .long (am i k)), (3, .int (nI (ps i k))), (0, .ref (o 0)), (1, .ref ((ad i).1))]) hx hb dX1_canTake_62 hl (k := 2) rfl (nI_1 k) (by decide) rfl (fun ls hl => ?_)
          refine lv_goto (tgt := 2) hx hb dX1_canTake_65 (by decide) ?_
          exact ihk (by omega) ls ⟨(lv_sub hl [0, 3, 4] rfl), lt_s' hm (ct_3 c3 (i64_le_nlt c4))⟩
        · have c4 : ¬ (fl (ps i k)) ≤ ((af (ps i k)) + (am i k)) := fun z9 => c4 ((lg_cmp_ge ((af (ps i k)) + (am i k)) (fl (ps i k))).mpr z9)
          refine lv_iconst (v := nI 0) hx hb dX1_canTake_60 (by decide) ?_
          exact W.zret (v := nI 0) hx hb hr (by decide) (fun t ht _ => ⟨rt0 (ct_no (by omega) (ct_2 c2 (i64_nle c4))), ht⟩) (fun q h => by cases h) dX1_canTake_61
set_option maxHeartbeats 1000000 in
set_option maxRecDepth 100000 in
theorem cD_take (l : Launch) (hP : va_P D vwCl (dW R o K ad va fl af bl n tc sc T S us ps am) H) (hD : va_D A (dW R o K ad va fl af bl n tc sc T S us ps am)) {i : Nat} (hi : i < n) (hui : us i ≤ 16) (hp : ∀ k, k < us i → ps i k < 300) : Met l yX1_take (tC yX1_take cX1_take 3 none) (rmK 0 0 0) (kP D K H [.ref (o 0), .ref ((ad i).1)]) (qV D A (fun u : Unit => True) (fun u : Unit => dW R o K ad va fl (tk_in (ps i) (am i) af (us i)) bl n tc sc T S us ps am)) 0 0 A := by
  refine Met.ofW (cc := cX1_take) (maxL := 3) (ret := none) (by decide) rfl ?_
  intro p e s m args below meth c s₁ B hml hv
  obtain ⟨rfl, hH, hK, hN, hO⟩ := hv
  have hx := B.exec
  have hb := B.bytes
  have hr := B.returns
  have hts : ∀ w ∈ tT, w.before _ s = true := fun w h => atoms_spec (ws := tC yX1_take cX1_take 3 none) B.pre w (List.mem_cons_of_mem _ h)
  have hown : s.vm.findClass RX1 = some m.cls := findClass_of_methodNamed B.named
  have hlocks := B.notSynchronized
  have C : cx RX1 D K p s m _ c cX1_take := ⟨hx, hb, hown, hts, hK, hN, hO⟩
  have hR : rmOk (headSpec (tC yX1_take cX1_take 3 none) (rmK 0 0 0)).room 0 0 0 := ⟨Nat.le_refl _, Nat.le_refl _, Nat.le_refl _, Nat.le_refl _⟩
  subst hH
  have hS : va_S A s.heap s.heap [] := va_S.rf
  have hl := lv_entry ([.ref (o 0), .ref ((ad i).1)]) (n := 3) (Nat.le_of_ble_eq_true rfl)
  rw [lg_entry_eq]
  generalize (lg_sl ([.ref (o 0), .ref ((ad i).1)]) ++ List.replicate (3 - (lg_sl ([.ref (o 0), .ref ((ad i).1)])).length) Slot.unset).toArray = ls at hl ⊢
  have hl : lv_has ls 3 [(0, .ref (o 0)), (1, .ref ((ad i).1))] := hl
  refine lv_iconst (v := nI 0) hx hb dX1_take_0 (by decide) ?_
  refine lv_istore_n (lv' := [(2, .int (nI 0)), (0, .ref (o 0)), (1, .ref ((ad i).1))]) hx hb dX1_take_1 rfl hl (by decide) rfl (fun ls hl => ?_)
  refine lpM (U := us i) (pcH := 2) (I := fun k ls H locs => lv_has ls 3 [(2, .int (nI k)), (0, .ref (o 0)), (1, .ref ((ad i).1))] ∧ va_P D vwCl (dW R o K ad va fl (tk_in (ps i) (am i) af k) bl n tc sc T S us ps am) H ∧ va_D A (dW R o K ad va fl (tk_in (ps i) (am i) af k) bl n tc sc T S us ps am) ∧ va_S A s.heap H locs) (fun k ls H locs hkk hI ihk => ?_) 0 ls _ _ (Nat.zero_le _) ⟨(lv_sub hl [0, 1, 2] rfl), hP, hD, hS⟩
  obtain ⟨hl, hP, hD, hS⟩ := hI
  refine lv_iload_n hx hb dX1_take_2 rfl (lv_at hl 0 rfl) ?_
  refine lv_aload_n hx hb dX1_take_3 rfl (lv_at hl 2 rfl) ?_
  refine gDI_used C hP hi dX1_take_4 ?_
  refine lv_icmp_ge (tgt := 47) hx hb dX1_take_7 (by decide) (fun c1 => ?_) (fun c1 => ?_)
  · have c1 : (us i) ≤ k := (nI_leI (by omega) (by omega)).mp c1
    rw [show k = us i by omega] at hP hD
    exact W.vret hx hb hr (fun t ht _ => ⟨⟨(), rfl, trivial, by rw [ht]; exact hP, hD⟩, hS.F ht⟩) hS.2.2 dX1_take_47
  · have c1 : ¬ (us i) ≤ k := fun z9 => c1 ((nI_leI (by omega) (by omega)).mpr z9)
    have hpk := hp k (by omega)
    refine lv_aload_n hx hb dX1_take_10 rfl (lv_at hl 2 rfl) ?_
    refine gDI_amounts C hP hi dX1_take_11 ?_
    refine lv_iload_n hx hb dX1_take_14 rfl (lv_at hl 0 rfl) ?_
    refine lI_amounts C hP hi (by omega) dX1_take_15 ?_
    refine lv_lconst (v := 0) hx hb dX1_take_16 (by decide) ?_
    refine W.lcmp hx hb dX1_take_17 ?_
    refine lv_if_ge (tgt := 41) hx hb dX1_take_18 (by decide) (fun c2 => ?_) (fun c2 => ?_)
    · have c2 : 0 ≤ (am i k) := (lg_cmp_ge (am i k) 0).mp c2
      refine lv_iinc (v := nI (k + 1)) (lv' := [(2, .int (nI (k + 1))), (0, .ref (o 0)), (1, .ref ((ad i).1))]) hx hb dX1_take_41 hl (k := 0) rfl (nI_1 k) (by decide) rfl (fun ls hl => ?_)
      refine lv_goto (tgt := 2) hx hb dX1_take_44 (by decide) ?_
      have e_af : (tk_in (ps i) (am i) af (k + 1)) = (tk_in (ps i) (am i) af k) := if_neg (i64_le_nlt c2)
      rw [← e_af] at hP hD
      exact ihk (by omega) ls _ _ ⟨(lv_sub hl [0, 1, 2] rfl), hP, hD, hS⟩
    · have c2 : ¬ 0 ≤ (am i k) := fun z9 => c2 ((lg_cmp_ge (am i k) 0).mpr z9)
      refine lv_aload_n hx hb dX1_take_21 rfl (lv_at hl 1 rfl) ?_
      refine gD_after C hP dX1_take_22 ?_
      refine lv_aload_n hx hb dX1_take_25 rfl (lv_at hl 2 rfl) ?_
      refine gDI_positions C hP hi dX1_take_26 ?_
      refine lv_iload_n hx hb dX1_take_29 rfl (lv_at hl 0 rfl) ?_
      refine lI_positions C hP hi (by omega) dX1_take_30 ?_
      refine lv_dup2_11 hx hb dX1_take_31 rfl rfl ?_
      refine lD_after C hP (by omega) dX1_take_32 ?_
      refine lv_aload_n hx hb dX1_take_33 rfl (lv_at hl 2 rfl) ?_
      refine gDI_amounts C hP hi dX1_take_34 ?_
      refine lv_iload_n hx hb dX1_take_37 rfl (lv_at hl 0 rfl) ?_
      refine lI_amounts C hP hi (by omega) dX1_take_38 ?_
      refine lv_ladd hx hb dX1_take_39 ?_
      refine sD_after (x := ((tk_in (ps i) (am i) af k) (ps i k)) + (am i k)) C hP hD hS hpk dX1_take_40 (fun H locs hP hD hS => ?_)
      refine lv_iinc (v := nI (k + 1)) (lv' := [(2, .int (nI (k + 1))), (0, .ref (o 0)), (1, .ref ((ad i).1))]) hx hb dX1_take_41 hl (k := 0) rfl (nI_1 k) (by decide) rfl (fun ls hl => ?_)
      refine lv_goto (tgt := 2) hx hb dX1_take_44 (by decide) ?_
      have e_af : (tk_in (ps i) (am i) af (k + 1)) = (va_up (tk_in (ps i) (am i) af k) (ps i k) (((tk_in (ps i) (am i) af k) (ps i k)) + (am i k))) := if_pos (i64_nle c2)
      rw [← e_af] at hP hD
      exact ihk (by omega) ls _ _ ⟨(lv_sub hl [0, 1, 2] rfl), hP, hD, hS⟩
set_option maxHeartbeats 1000000 in
set_option maxRecDepth 100000 in
theorem cD_drop (l : Launch) (hP : va_P D vwCl (dW R o K ad va fl af bl n tc sc T S us ps am) H) (hD : va_D A (dW R o K ad va fl af bl n tc sc T S us ps am)) {i : Nat} (hi : i < n) (hui : us i ≤ 16) (hp : ∀ k, k < us i → ps i k < 300) (hsc : S i = true → 0 < sc) : Met l yX1_drop (tC yX1_drop cX1_drop 3 none) (rmK 0 0 0) (kP D K H [.ref (o 0), .ref ((ad i).1)]) (qV D A (fun u : Unit => True) (fun u : Unit => dW R o K ad va fl af (bk_in (ps i) (am i) bl (us i)) n tc (if S i = true then sc - 1 else sc) T (va_up S i false) us ps am)) 0 0 A := by
  refine Met.ofW (cc := cX1_drop) (maxL := 3) (ret := none) (by decide) rfl ?_
  intro p e s m args below meth c s₁ B hml hv
  obtain ⟨rfl, hH, hK, hN, hO⟩ := hv
  have hx := B.exec
  have hb := B.bytes
  have hr := B.returns
  have hts : ∀ w ∈ tT, w.before _ s = true := fun w h => atoms_spec (ws := tC yX1_drop cX1_drop 3 none) B.pre w (List.mem_cons_of_mem _ h)
  have hown : s.vm.findClass RX1 = some m.cls := findClass_of_methodNamed B.named
  have hlocks := B.notSynchronized
  have C : cx RX1 D K p s m _ c cX1_drop := ⟨hx, hb, hown, hts, hK, hN, hO⟩
  have hR : rmOk (headSpec (tC yX1_drop cX1_drop 3 none) (rmK 0 0 0)).room 0 0 0 := ⟨Nat.le_refl _, Nat.le_refl _, Nat.le_refl _, Nat.le_refl _⟩
  subst hH
  have hS : va_S A s.heap s.heap [] := va_S.rf
  have hl := lv_entry ([.ref (o 0), .ref ((ad i).1)]) (n := 3) (Nat.le_of_ble_eq_true rfl)
  rw [lg_entry_eq]
  generalize (lg_sl ([.ref (o 0), .ref ((ad i).1)]) ++ List.replicate (3 - (lg_sl ([.ref (o 0), .ref ((ad i).1)])).length) Slot.unset).toArray = ls at hl ⊢
  have hl : lv_has ls 3 [(0, .ref (o 0)), (1, .ref ((ad i).1))] := hl
  refine lv_iconst (v := nI 0) hx hb dX1_drop_0 (by decide) ?_
  refine lv_istore_n (lv' := [(2, .int (nI 0)), (0, .ref (o 0)), (1, .ref ((ad i).1))]) hx hb dX1_drop_1 rfl hl (by decide) rfl (fun ls hl => ?_)
  refine lpM (U := us i) (pcH := 2) (I := fun k ls H locs => lv_has ls 3 [(2, .int (nI k)), (0, .ref (o 0)), (1, .ref ((ad i).1))] ∧ va_P D vwCl (dW R o K ad va fl af (bk_in (ps i) (am i) bl k) n tc sc T S us ps am) H ∧ va_D A (dW R o K ad va fl af (bk_in (ps i) (am i) bl k) n tc sc T S us ps am) ∧ va_S A s.heap H locs) (fun k ls H locs hkk hI ihk => ?_) 0 ls _ _ (Nat.zero_le _) ⟨(lv_sub hl [0, 1, 2] rfl), hP, hD, hS⟩
  obtain ⟨hl, hP, hD, hS⟩ := hI
  refine lv_iload_n hx hb dX1_drop_2 rfl (lv_at hl 0 rfl) ?_
  refine lv_aload_n hx hb dX1_drop_3 rfl (lv_at hl 2 rfl) ?_
  refine gDI_used C hP hi dX1_drop_4 ?_
  refine lv_icmp_ge (tgt := 39) hx hb dX1_drop_7 (by decide) (fun c1 => ?_) (fun c1 => ?_)
  · have c1 : (us i) ≤ k := (nI_leI (by omega) (by omega)).mp c1
    rw [show k = us i by omega] at hP hD
    refine lv_aload_n hx hb dX1_drop_39 rfl (lv_at hl 2 rfl) ?_
    refine gDI_inSet C hP hi dX1_drop_40 ?_
    refine lv_if_eq (tgt := 61) hx hb dX1_drop_43 (by decide) (fun c3 => ?_) (fun c3 => ?_)
    · have c3 : (S i) = false := (bI_z (S i)).mp c3
      have e0 : va_up S i false = S := by
        have q := up_same S i
        rw [c3] at q
        exact q
      have e1 : dW R o K ad va fl af (bk_in (ps i) (am i) bl (us i)) n tc (if S i = true then sc - 1 else sc) T (va_up S i false) us ps am = dW R o K ad va fl af (bk_in (ps i) (am i) bl (us i)) n tc sc T S us ps am := by rw [e0, if_neg (by rw [c3]; decide)]
      rw [← e1] at hP hD
      exact W.vret hx hb hr (fun t ht _ => ⟨⟨(), rfl, trivial, by rw [ht]; exact hP, hD⟩, hS.F ht⟩) hS.2.2 dX1_drop_61
    · have c3 : (S i) = true := (bI_nz (S i)).mp c3
      refine lv_aload_n hx hb dX1_drop_46 rfl (lv_at hl 2 rfl) ?_
      refine lv_iconst (v := nI 0) hx hb dX1_drop_47 (by decide) ?_
      refine tp_i (y := bI false) (b0 rfl) ?_
      refine pDI_inSet C hP hD hS hi dX1_drop_48 (fun H locs hP hD hS => ?_)
      refine lv_aload_n hx hb dX1_drop_51 rfl (lv_at hl 1 rfl) ?_
      refine lv_dup hx hb dX1_drop_52 rfl ?_
      refine gD_setCount C hP dX1_drop_53 ?_
      refine lv_iconst (v := nI 1) hx hb dX1_drop_56 (by decide) ?_
      refine lv_isub hx hb dX1_drop_57 ?_
      have h0 := hsc c3
      refine tp_i (y := nI (sc - 1)) (pk_sub (by omega)) ?_
      refine pD_setCount C hP hD hS dX1_drop_58 (fun H locs hP hD hS => ?_)
      have e1 : dW R o K ad va fl af (bk_in (ps i) (am i) bl (us i)) n tc (if S i = true then sc - 1 else sc) T (va_up S i false) us ps am = dW R o K ad va fl af (bk_in (ps i) (am i) bl (us i)) n tc (sc - 1) T (va_up S i false) us ps am := by rw [if_pos c3]
      rw [← e1] at hP hD
      exact W.vret hx hb hr (fun t ht _ => ⟨⟨(), rfl, trivial, by rw [ht]; exact hP, hD⟩, hS.F ht⟩) hS.2.2 dX1_drop_61
  · have c1 : ¬ (us i) ≤ k := fun z9 => c1 ((nI_leI (by omega) (by omega)).mpr z9)
    have hpk := hp k (by omega)
    refine lv_aload_n hx hb dX1_drop_10 rfl (lv_at hl 2 rfl) ?_
    refine gDI_amounts C hP hi dX1_drop_11 ?_
    refine lv_iload_n hx hb dX1_drop_14 rfl (lv_at hl 0 rfl) ?_
    refine lI_amounts C hP hi (by omega) dX1_drop_15 ?_
    refine lv_lconst (v := 0) hx hb dX1_drop_16 (by decide) ?_
    refine W.lcmp hx hb dX1_drop_17 ?_
    refine lv_if_ge (tgt := 33) hx hb dX1_drop_18 (by decide) (fun c2 => ?_) (fun c2 => ?_)
    · have c2 : 0 ≤ (am i k) := (lg_cmp_ge (am i k) 0).mp c2
      refine lv_iinc (v := nI (k + 1)) (lv' := [(2, .int (nI (k + 1))), (0, .ref (o 0)), (1, .ref ((ad i).1))]) hx hb dX1_drop_33 hl (k := 0) rfl (nI_1 k) (by decide) rfl (fun ls hl => ?_)
      refine lv_goto (tgt := 2) hx hb dX1_drop_36 (by decide) ?_
      have e_bl : (bk_in (ps i) (am i) bl (k + 1)) = (bk_in (ps i) (am i) bl k) := if_neg (i64_le_nlt c2)
      rw [← e_bl] at hP hD
      exact ihk (by omega) ls _ _ ⟨(lv_sub hl [0, 1, 2] rfl), hP, hD, hS⟩
    · have c2 : ¬ 0 ≤ (am i k) := fun z9 => c2 ((lg_cmp_ge (am i k) 0).mpr z9)
      refine lv_aload_n hx hb dX1_drop_21 rfl (lv_at hl 1 rfl) ?_
      refine gD_blocked C hP dX1_drop_22 ?_
      refine lv_aload_n hx hb dX1_drop_25 rfl (lv_at hl 2 rfl) ?_
      refine gDI_positions C hP hi dX1_drop_26 ?_
      refine lv_iload_n hx hb dX1_drop_29 rfl (lv_at hl 0 rfl) ?_
      refine lI_positions C hP hi (by omega) dX1_drop_30 ?_
      refine lv_iconst (v := nI 1) hx hb dX1_drop_31 (by decide) ?_
      refine tp_i (y := bI true) (b1 rfl) ?_
      refine sD_blocked (x := true) C hP hD hS hpk dX1_drop_32 (fun H locs hP hD hS => ?_)
      refine lv_iinc (v := nI (k + 1)) (lv' := [(2, .int (nI (k + 1))), (0, .ref (o 0)), (1, .ref ((ad i).1))]) hx hb dX1_drop_33 hl (k := 0) rfl (nI_1 k) (by decide) rfl (fun ls hl => ?_)
      refine lv_goto (tgt := 2) hx hb dX1_drop_36 (by decide) ?_
      have e_bl : (bk_in (ps i) (am i) bl (k + 1)) = (va_up (bk_in (ps i) (am i) bl k) (ps i k) true) := if_pos (i64_nle c2)
      rw [← e_bl] at hP hD
      exact ihk (by omega) ls _ _ ⟨(lv_sub hl [0, 1, 2] rfl), hP, hD, hS⟩
set_option maxHeartbeats 1000000 in
set_option maxRecDepth 100000 in
theorem cD_valuesFit (l : Launch) (hP : va_P D vwCl (dW R o K ad va fl af bl n tc sc T S us ps am) H)  : Met l yX1_valuesFit (tC yX1_valuesFit cX1_valuesFit 2 (some .boolean)) (rmK 0 0 0) (kP D K H [.ref (o 0)]) (k2_QcV (.int (bI (vfB af)))) 0 0 (fun _ => False) := by
  refine Met.ofW (cc := cX1_valuesFit) (maxL := 2) (ret := (some .boolean)) (by decide) rfl ?_
  intro p e s m args below meth c s₁ B hml hv
  obtain ⟨rfl, hH, hK, hN, hO⟩ := hv
  have hx := B.exec
  have hb := B.bytes
  have hr := B.returns
  have hts : ∀ w ∈ tT, w.before _ s = true := fun w h => atoms_spec (ws := tC yX1_valuesFit cX1_valuesFit 2 (some .boolean)) B.pre w (List.mem_cons_of_mem _ h)
  have hown : s.vm.findClass RX1 = some m.cls := findClass_of_methodNamed B.named
  have hlocks := B.notSynchronized
  have C : cx RX1 D K p s m _ c cX1_valuesFit := ⟨hx, hb, hown, hts, hK, hN, hO⟩
  have hR : rmOk (headSpec (tC yX1_valuesFit cX1_valuesFit 2 (some .boolean)) (rmK 0 0 0)).room 0 0 0 := ⟨Nat.le_refl _, Nat.le_refl _, Nat.le_refl _, Nat.le_refl _⟩
  subst hH
  have hl := lv_entry ([.ref (o 0)]) (n := 2) (Nat.le_of_ble_eq_true rfl)
  rw [lg_entry_eq]
  generalize (lg_sl ([.ref (o 0)]) ++ List.replicate (2 - (lg_sl ([.ref (o 0)])).length) Slot.unset).toArray = ls at hl ⊢
  have hl : lv_has ls 2 [(0, .ref (o 0))] := hl
  refine lv_iconst (v := nI 0) hx hb dX1_valuesFit_0 (by decide) ?_
  refine lv_istore_n (lv' := [(1, .int (nI 0)), (0, .ref (o 0))]) hx hb dX1_valuesFit_1 rfl hl (by decide) rfl (fun ls hl => ?_)
  refine lpW (U := 300) (pcH := 2) (I := fun k ls => lv_has ls 2 [(1, .int (nI k)), (0, .ref (o 0))] ∧ ∀ j, j < k → ¬ 1000000000000000000 < af j) (fun k ls hkk hI ihk => ?_) 0 ls (Nat.zero_le _) ⟨(lv_sub hl [0, 1] rfl), fun j hj => absurd hj (Nat.not_lt_zero j)⟩
  obtain ⟨hl, hm⟩ := hI
  refine lv_iload_n hx hb dX1_valuesFit_2 rfl (lv_at hl 0 rfl) ?_
  refine lv_sipush (v := nI 300) hx hb dX1_valuesFit_3 (by decide) ?_
  refine lv_icmp_ge (tgt := 30) hx hb dX1_valuesFit_6 (by decide) (fun c1 => ?_) (fun c1 => ?_)
  · have c1 : 300 ≤ k := (nI_leI (by omega) (by omega)).mp c1
    refine lv_iconst (v := nI 1) hx hb dX1_valuesFit_30 (by decide) ?_
    exact W.zret (v := nI 1) hx hb hr (by decide) (fun t ht _ => ⟨rt1 (decide_eq_true (fun j hj => decide_eq_false (hm j (by omega)))), ht⟩) (fun q h => by cases h) dX1_valuesFit_31
  · have c1 : ¬ 300 ≤ k := fun z9 => c1 ((nI_leI (by omega) (by omega)).mpr z9)
    refine lv_aload_n hx hb dX1_valuesFit_9 rfl (lv_at hl 1 rfl) ?_
    refine gD_after C hP dX1_valuesFit_10 ?_
    refine lv_iload_n hx hb dX1_valuesFit_13 rfl (lv_at hl 0 rfl) ?_
    refine lD_after C hP (by omega) dX1_valuesFit_14 ?_
    refine lv_ldc2 (v := 1000000000000000000) hx hb hown (hts _ (by decide +kernel : Cond.constantLong RX1 88 1000000000000000000 ∈ tT)) dX1_valuesFit_15 ?_
    refine W.lcmp hx hb dX1_valuesFit_18 ?_
    refine lv_if_le (tgt := 24) hx hb dX1_valuesFit_19 (by decide) (fun c2 => ?_) (fun c2 => ?_)
    · have c2 : (af k) ≤ 1000000000000000000 := (lg_cmp_le (af k) 1000000000000000000).mp c2
      refine lv_iinc (v := nI (k + 1)) (lv' := [(1, .int (nI (k + 1))), (0, .ref (o 0))]) hx hb dX1_valuesFit_24 hl (k := 0) rfl (nI_1 k) (by decide) rfl (fun ls hl => ?_)
      refine lv_goto (tgt := 2) hx hb dX1_valuesFit_27 (by decide) ?_
      exact ihk (by omega) ls ⟨(lv_sub hl [0, 1] rfl), lt_s' hm (i64_le_nlt c2)⟩
    · have c2 : ¬ (af k) ≤ 1000000000000000000 := fun z9 => c2 ((lg_cmp_le (af k) 1000000000000000000).mpr z9)
      refine lv_iconst (v := nI 0) hx hb dX1_valuesFit_22 (by decide) ?_
      exact W.zret (v := nI 0) hx hb hr (by decide) (fun t ht _ => ⟨rt0 (decide_eq_false (fun z => of_decide_eq_false (z k (by omega)) (i64_nle c2))), ht⟩) (fun q h => by cases h) dX1_valuesFit_23
set_option maxHeartbeats 1000000 in
set_option maxRecDepth 100000 in
theorem cD_endItemsOfSet (l : Launch) (hP : va_P D vwCl (dW R o K ad va fl af bl n tc sc T S us ps am) H) (hD : va_D A (dW R o K ad va fl af bl n tc sc T S us ps am)) (hn200 : n ≤ 200) (hsc : sc ≤ tc) : Met l yX1_endItemsOfSet (tC yX1_endItemsOfSet cX1_endItemsOfSet 3 none) (rmK 0 0 0) (kP D K H [.ref (o 0)]) (qV D A (fun u : Unit => True) (fun u : Unit => dW R o K ad va fl af bl n (tc - sc) sc (d_en S T n) S us ps am)) 0 0 A := by
  refine Met.ofW (cc := cX1_endItemsOfSet) (maxL := 3) (ret := none) (by decide) rfl ?_
  intro p e s m args below meth c s₁ B hml hv
  obtain ⟨rfl, hH, hK, hN, hO⟩ := hv
  have hx := B.exec
  have hb := B.bytes
  have hr := B.returns
  have hts : ∀ w ∈ tT, w.before _ s = true := fun w h => atoms_spec (ws := tC yX1_endItemsOfSet cX1_endItemsOfSet 3 none) B.pre w (List.mem_cons_of_mem _ h)
  have hown : s.vm.findClass RX1 = some m.cls := findClass_of_methodNamed B.named
  have hlocks := B.notSynchronized
  have C : cx RX1 D K p s m _ c cX1_endItemsOfSet := ⟨hx, hb, hown, hts, hK, hN, hO⟩
  have hR : rmOk (headSpec (tC yX1_endItemsOfSet cX1_endItemsOfSet 3 none) (rmK 0 0 0)).room 0 0 0 := ⟨Nat.le_refl _, Nat.le_refl _, Nat.le_refl _, Nat.le_refl _⟩
  subst hH
  have hS : va_S A s.heap s.heap [] := va_S.rf
  have hl := lv_entry ([.ref (o 0)]) (n := 3) (Nat.le_of_ble_eq_true rfl)
  rw [lg_entry_eq]
  generalize (lg_sl ([.ref (o 0)]) ++ List.replicate (3 - (lg_sl ([.ref (o 0)])).length) Slot.unset).toArray = ls at hl ⊢
  have hl : lv_has ls 3 [(0, .ref (o 0))] := hl
  refine lv_iconst (v := nI 0) hx hb dX1_endItemsOfSet_0 (by decide) ?_
  refine lv_istore_n (lv' := [(1, .int (nI 0)), (0, .ref (o 0))]) hx hb dX1_endItemsOfSet_1 rfl hl (by decide) rfl (fun ls hl => ?_)
  refine lpM (U := n) (pcH := 2) (I := fun k ls H locs => lv_has ls 3 [(1, .int (nI k)), (0, .ref (o 0))] ∧ va_P D vwCl (dW R o K ad va fl af bl n tc sc (d_en S T k) S us ps am) H ∧ va_D A (dW R o K ad va fl af bl n tc sc (d_en S T k) S us ps am) ∧ va_S A s.heap H locs) (fun k ls H locs hkk hI ihk => ?_) 0 ls _ _ (Nat.zero_le _) ⟨(lv_sub hl [0, 1] rfl), hP, hD, hS⟩
  obtain ⟨hl, hP, hD, hS⟩ := hI
  refine lv_iload_n hx hb dX1_endItemsOfSet_2 rfl (lv_at hl 0 rfl) ?_
  refine lv_aload_n hx hb dX1_endItemsOfSet_3 rfl (lv_at hl 1 rfl) ?_
  refine gD_itemCount C hP dX1_endItemsOfSet_4 ?_
  refine lv_icmp_ge (tgt := 39) hx hb dX1_endItemsOfSet_7 (by decide) (fun c1 => ?_) (fun c1 => ?_)
  · have c1 : n ≤ k := (nI_leI (by omega) (by omega)).mp c1
    rw [show k = n by omega] at hP hD
    refine lv_aload_n hx hb dX1_endItemsOfSet_39 rfl (lv_at hl 1 rfl) ?_
    refine lv_dup hx hb dX1_endItemsOfSet_40 rfl ?_
    refine gD_thereCount C hP dX1_endItemsOfSet_41 ?_
    refine lv_aload_n hx hb dX1_endItemsOfSet_44 rfl (lv_at hl 1 rfl) ?_
    refine gD_setCount C hP dX1_endItemsOfSet_45 ?_
    refine lv_isub hx hb dX1_endItemsOfSet_48 ?_
    refine tp_i (y := nI (tc - sc)) (pk_sub hsc) ?_
    refine pD_thereCount C hP hD hS dX1_endItemsOfSet_49 (fun H locs hP hD hS => ?_)
    exact W.vret hx hb hr (fun t ht _ => ⟨⟨(), rfl, trivial, by rw [ht]; exact hP, hD⟩, hS.F ht⟩) hS.2.2 dX1_endItemsOfSet_52
  · have c1 : ¬ n ≤ k := fun z9 => c1 ((nI_leI (by omega) (by omega)).mpr z9)
    refine lv_aload_n hx hb dX1_endItemsOfSet_10 rfl (lv_at hl 1 rfl) ?_
    refine gD_items C hP dX1_endItemsOfSet_11 ?_
    refine lv_iload_n hx hb dX1_endItemsOfSet_14 rfl (lv_at hl 0 rfl) ?_
    refine lD_items C hP hn200 (by omega) dX1_endItemsOfSet_15 ?_
    refine lv_astore_n (lv' := [(2, .ref ((ad k).1)), (1, .int (nI k)), (0, .ref (o 0))]) hx hb dX1_endItemsOfSet_16 rfl hl (by decide) rfl (fun ls hl => ?_)
    refine lv_aload_n hx hb dX1_endItemsOfSet_17 rfl (lv_at hl 0 rfl) ?_
    refine lv_ifnull hx hb dX1_endItemsOfSet_18 ?_
    refine lv_aload_n hx hb dX1_endItemsOfSet_21 rfl (lv_at hl 0 rfl) ?_
    refine gDI_inSet C hP (by omega) dX1_endItemsOfSet_22 ?_
    refine lv_if_eq (tgt := 33) hx hb dX1_endItemsOfSet_25 (by decide) (fun c2 => ?_) (fun c2 => ?_)
    · have c2 : (S k) = false := (bI_z (S k)).mp c2
      refine lv_iinc (v := nI (k + 1)) (lv' := [(1, .int (nI (k + 1))), (2, .ref ((ad k).1)), (0, .ref (o 0))]) hx hb dX1_endItemsOfSet_33 hl (k := 1) rfl (nI_1 k) (by decide) rfl (fun ls hl => ?_)
      refine lv_goto (tgt := 2) hx hb dX1_endItemsOfSet_36 (by decide) ?_
      have e_T : (d_en S T (k + 1)) = (d_en S T k) := if_neg (by rw [c2]; decide)
      rw [← e_T] at hP hD
      exact ihk (by omega) ls _ _ ⟨(lv_sub hl [0, 2] rfl), hP, hD, hS⟩
    · have c2 : (S k) = true := (bI_nz (S k)).mp c2
      refine lv_aload_n hx hb dX1_endItemsOfSet_28 rfl (lv_at hl 0 rfl) ?_
      refine lv_iconst (v := nI 0) hx hb dX1_endItemsOfSet_29 (by decide) ?_
      refine tp_i (y := bI false) (b0 rfl) ?_
      refine pDI_there C hP hD hS (by omega) dX1_endItemsOfSet_30 (fun H locs hP hD hS => ?_)
      refine lv_iinc (v := nI (k + 1)) (lv' := [(1, .int (nI (k + 1))), (2, .ref ((ad k).1)), (0, .ref (o 0))]) hx hb dX1_endItemsOfSet_33 hl (k := 1) rfl (nI_1 k) (by decide) rfl (fun ls hl => ?_)
      refine lv_goto (tgt := 2) hx hb dX1_endItemsOfSet_36 (by decide) ?_
      have e_T : (d_en S T (k + 1)) = (va_up (d_en S T k) k false) := if_pos c2
      rw [← e_T] at hP hD
      exact ihk (by omega) ls _ _ ⟨(lv_sub hl [0, 2] rfl), hP, hD, hS⟩
end MD2
