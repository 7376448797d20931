/-! THE REFERENCE: net, and what its search reads -/
section MM2
variable {D : va_G} {K : Nat → ClassId} {H : Heap} {A : Nat → Prop} {R : va_W} {o : Nat → Nat} {va fl an : Nat → Int64} {n : Nat} {th ch : Nat → Bool} {mn po : Nat → Nat}
set_option maxHeartbeats 1000000 in
set_option maxRecDepth 100000 in
theorem cM_total (l : Launch) (hP : va_P D vwCl (mW R o K va fl n th ch mn po an) H) {va0 fl0 : Nat → Int64} (hok : cl_ok mn (psM po) (amM an) va0 fl0 n) {g : Nat} (hg : g < 300) : Met l yX2_total (tC yX2_total cX2_total 5 (some .long)) (rmK 2 0 0) (kP D K H [.ref (o 0), .int (nI g)]) (k2_QcV (.long (m_tot mn po an va ch g n))) 0 0 (fun _ => False) := by
  refine Met.ofW (cc := cX2_total) (maxL := 5) (ret := (some .long)) (by decide) rfl ?_
  intro p e s m args below meth c s₁ B hml hv
  obtain ⟨rfl, hH, hK, hN, hO⟩ := hv
  have hx := B.exec
  have hb := B.bytes
  have hr := B.returns
  have hts : ∀ w ∈ tT, w.before _ s = true := fun w h => atoms_spec (ws := tC yX2_total cX2_total 5 (some .long)) B.pre w (List.mem_cons_of_mem _ h)
  have hown : s.vm.findClass RX2 = some m.cls := findClass_of_methodNamed B.named
  have hlocks := B.notSynchronized
  have C : cx RX2 D K p s m _ c cX2_total := ⟨hx, hb, hown, hts, hK, hN, hO⟩
  have hR : rmOk (headSpec (tC yX2_total cX2_total 5 (some .long)) (rmK 2 0 0)).room 2 0 0 := ⟨Nat.le_refl _, Nat.le_refl _, Nat.le_refl _, Nat.le_refl _⟩
  subst hH
  have hl := lv_entry ([.ref (o 0), .int (nI g)]) (n := 5) (Nat.le_of_ble_eq_true rfl)
  rw [lg_entry_eq]
  generalize (lg_sl ([.ref (o 0), .int (nI g)]) ++ List.replicate (5 - (lg_sl ([.ref (o 0), .int (nI g)])).length) Slot.unset).toArray = ls at hl ⊢
  have hl : lv_has ls 5 [(0, .ref (o 0)), (1, .int (nI g))] := hl
  have hn200 : n ≤ 200 := hok.1
  refine lv_aload_n hx hb dX2_total_0 rfl (lv_at hl 0 rfl) ?_
  refine gM_values C hP dX2_total_1 ?_
  refine lv_iload_n hx hb dX2_total_4 rfl (lv_at hl 1 rfl) ?_
  refine lM_values C hP (by omega) dX2_total_5 ?_
  refine lv_lstore_n (lv' := [(2, .long (va g)), (0, .ref (o 0)), (1, .int (nI g))]) hx hb dX2_total_6 rfl hl (by decide) rfl (fun ls hl => ?_)
  refine lv_iconst (v := nI 0) hx hb dX2_total_7 (by decide) ?_
  refine lv_istore (lv' := [(4, .int (nI 0)), (2, .long (va g)), (0, .ref (o 0)), (1, .int (nI g))]) hx hb dX2_total_8 hl (by decide) rfl (fun ls hl => ?_)
  refine lpW (U := n) (pcH := 10) (I := fun i ls => lv_has ls 5 [(4, .int (nI i)), (2, .long (m_tot mn po an va ch g i)), (0, .ref (o 0)), (1, .int (nI g))]) (fun i ls hki hI ihi => ?_) 0 ls (Nat.zero_le _) (lv_sub hl [0, 1, 2, 3] rfl)
  have hl := hI
  refine lv_iload hx hb dX2_total_10 (lv_at hl 0 rfl) ?_
  refine lv_aload_n hx hb dX2_total_12 rfl (lv_at hl 2 rfl) ?_
  refine gM_items C hP dX2_total_13 ?_
  refine lv_icmp_ge (tgt := 49) hx hb dX2_total_16 (by decide) (fun c1 => ?_) (fun c1 => ?_)
  · have c1 : n ≤ i := (nI_leI (by omega) (by omega)).mp c1
    refine lv_lload_n hx hb dX2_total_49 rfl (lv_at hl 1 rfl) ?_
    exact W.lret (v := m_tot mn po an va ch g i) hx hb hr (fun t ht _ => ⟨rtl (congrArg (m_tot mn po an va ch g) (by omega)), ht⟩) (fun q h => by cases h) dX2_total_50
  · have c1 : ¬ n ≤ i := fun z9 => c1 ((nI_leI (by omega) (by omega)).mpr z9)
    have hin : i < n := by omega
    refine lv_lload_n hx hb dX2_total_19 rfl (lv_at hl 1 rfl) ?_
    refine lv_aload_n hx hb dX2_total_20 rfl (lv_at hl 2 rfl) ?_
    refine gM_chosen C hP dX2_total_21 ?_
    refine lv_iload hx hb dX2_total_24 (lv_at hl 0 rfl) ?_
    refine lM_chosen C hP (by omega) dX2_total_26 ?_
    refine lv_if_eq (tgt := 40) hx hb dX2_total_27 (by decide) (fun c2 => ?_) (fun c2 => ?_)
    · have c2 : (ch i) = false := (bI_z (ch i)).mp c2
      refine lv_lconst (v := 0) hx hb dX2_total_40 (by decide) ?_
      refine lv_ladd hx hb dX2_total_41 ?_
      refine tp_l (y := m_tot mn po an va ch g (i + 1)) (tot_f c2) ?_
      refine lv_lstore_n (lv' := [(2, .long (m_tot mn po an va ch g (i + 1))), (4, .int (nI i)), (0, .ref (o 0)), (1, .int (nI g))]) hx hb dX2_total_42 rfl hl (by decide) rfl (fun ls hl => ?_)
      refine lv_iinc (v := nI (i + 1)) (lv' := [(4, .int (nI (i + 1))), (2, .long (m_tot mn po an va ch g (i + 1))), (0, .ref (o 0)), (1, .int (nI g))]) hx hb dX2_total_43 hl (k := 1) rfl (nI_1 i) (by decide) rfl (fun ls hl => ?_)
      refine lv_goto (tgt := 10) hx hb dX2_total_46 (by decide) ?_
      exact ihi (by omega) ls (lv_sub hl [0, 1, 2, 3] rfl)
    · have c2 : (ch i) = true := (bI_nz (ch i)).mp c2
      refine lv_aload_n hx hb dX2_total_30 rfl (lv_at hl 2 rfl) ?_
      refine lv_iload hx hb dX2_total_31 (lv_at hl 0 rfl) ?_
      refine lv_iload_n hx hb dX2_total_33 rfl (lv_at hl 3 rfl) ?_
      refine pv (va_runV (As := [.int (nI i), .int (nI g)]) (rest := [.long (m_tot mn po an va ch g i)]) ⟨hx, hb, hml, hown, hts⟩ (cM_netAt l hP (Nat.lt_of_lt_of_le hin hok.1) (hok.2.1 i hin).1 (hok.2.1 i hin).2.1 hg) (cwV 2 hts gM_60 rfl rfl rfl (by decide +kernel) (rmF hR (by decide) (by decide))) (kP_V C (va_recv C.2.2.2.2.1 hP (ci := ciM) (q0 := 0) rfl rfl)) rfl rfl hl.1 rfl (lv_room (Nat.le_of_ble_eq_true rfl)) dX2_total_34 ⟨hR.2.2.1, hR.2.2.2⟩) ?_
      refine lv_goto (tgt := 41) hx hb dX2_total_37 (by decide) ?_
      refine lv_ladd hx hb dX2_total_41 ?_
      refine tp_l (y := m_tot mn po an va ch g (i + 1)) (tot_t c2) ?_
      refine lv_lstore_n (lv' := [(2, .long (m_tot mn po an va ch g (i + 1))), (4, .int (nI i)), (0, .ref (o 0)), (1, .int (nI g))]) hx hb dX2_total_42 rfl hl (by decide) rfl (fun ls hl => ?_)
      refine lv_iinc (v := nI (i + 1)) (lv' := [(4, .int (nI (i + 1))), (2, .long (m_tot mn po an va ch g (i + 1))), (0, .ref (o 0)), (1, .int (nI g))]) hx hb dX2_total_43 hl (k := 1) rfl (nI_1 i) (by decide) rfl (fun ls hl => ?_)
      refine lv_goto (tgt := 10) hx hb dX2_total_46 (by decide) ?_
      exact ihi (by omega) ls (lv_sub hl [0, 1, 2, 3] rfl)
set_option maxHeartbeats 1000000 in
set_option maxRecDepth 100000 in
theorem cM_lastTaker (l : Launch) (hP : va_P D vwCl (mW R o K va fl n th ch mn po an) H) (hok : cl_ok mn (psM po) (amM an) va fl n) {g : Nat} (hg : g < 300) : Met l yX2_lastTaker (tC yX2_lastTaker cX2_lastTaker 4 (some .int)) (rmK 2 0 0) (kP D K H [.ref (o 0), .int (nI g)]) (k2_QcV (.int (m_last mn po an ch g n))) 0 0 (fun _ => False) := by
  refine Met.ofW (cc := cX2_lastTaker) (maxL := 4) (ret := (some .int)) (by decide) rfl ?_
  intro p e s m args below meth c s₁ B hml hv
  obtain ⟨rfl, hH, hK, hN, hO⟩ := hv
  have hx := B.exec
  have hb := B.bytes
  have hr := B.returns
  have hts : ∀ w ∈ tT, w.before _ s = true := fun w h => atoms_spec (ws := tC yX2_lastTaker cX2_lastTaker 4 (some .int)) B.pre w (List.mem_cons_of_mem _ h)
  have hown : s.vm.findClass RX2 = some m.cls := findClass_of_methodNamed B.named
  have hlocks := B.notSynchronized
  have C : cx RX2 D K p s m _ c cX2_lastTaker := ⟨hx, hb, hown, hts, hK, hN, hO⟩
  have hR : rmOk (headSpec (tC yX2_lastTaker cX2_lastTaker 4 (some .int)) (rmK 2 0 0)).room 2 0 0 := ⟨Nat.le_refl _, Nat.le_refl _, Nat.le_refl _, Nat.le_refl _⟩
  subst hH
  have hl := lv_entry ([.ref (o 0), .int (nI g)]) (n := 4) (Nat.le_of_ble_eq_true rfl)
  rw [lg_entry_eq]
  generalize (lg_sl ([.ref (o 0), .int (nI g)]) ++ List.replicate (4 - (lg_sl ([.ref (o 0), .int (nI g)])).length) Slot.unset).toArray = ls at hl ⊢
  have hl : lv_has ls 4 [(0, .ref (o 0)), (1, .int (nI g))] := hl
  have hn200 : n ≤ 200 := hok.1
  refine lv_iconst (v := (-1)) hx hb dX2_lastTaker_0 (by decide) ?_
  refine lv_istore_n (lv' := [(2, .int (-1)), (0, .ref (o 0)), (1, .int (nI g))]) hx hb dX2_lastTaker_1 rfl hl (by decide) rfl (fun ls hl => ?_)
  refine lv_iconst (v := nI 0) hx hb dX2_lastTaker_2 (by decide) ?_
  refine lv_istore_n (lv' := [(3, .int (nI 0)), (2, .int (-1)), (0, .ref (o 0)), (1, .int (nI g))]) hx hb dX2_lastTaker_3 rfl hl (by decide) rfl (fun ls hl => ?_)
  refine lpW (U := n) (pcH := 4) (I := fun i ls => lv_has ls 4 [(3, .int (nI i)), (2, .int (m_last mn po an ch g i)), (0, .ref (o 0)), (1, .int (nI g))]) (fun i ls hki hI ihi => ?_) 0 ls (Nat.zero_le _) (lv_sub hl [0, 1, 2, 3] rfl)
  have hl := hI
  refine lv_iload_n hx hb dX2_lastTaker_4 rfl (lv_at hl 0 rfl) ?_
  refine lv_aload_n hx hb dX2_lastTaker_5 rfl (lv_at hl 2 rfl) ?_
  refine gM_items C hP dX2_lastTaker_6 ?_
  refine lv_icmp_ge (tgt := 44) hx hb dX2_lastTaker_9 (by decide) (fun c1 => ?_) (fun c1 => ?_)
  · have c1 : n ≤ i := (nI_leI (by omega) (by omega)).mp c1
    refine lv_iload_n hx hb dX2_lastTaker_44 rfl (lv_at hl 1 rfl) ?_
    exact W.iret (v := m_last mn po an ch g i) hx hb hr (fun t ht _ => ⟨rti (congrArg (m_last mn po an ch g) (by omega)), ht⟩) (fun q h => by cases h) dX2_lastTaker_45
  · have c1 : ¬ n ≤ i := fun z9 => c1 ((nI_leI (by omega) (by omega)).mpr z9)
    have hin : i < n := by omega
    refine lv_aload_n hx hb dX2_lastTaker_12 rfl (lv_at hl 2 rfl) ?_
    refine gM_chosen C hP dX2_lastTaker_13 ?_
    refine lv_iload_n hx hb dX2_lastTaker_16 rfl (lv_at hl 0 rfl) ?_
    refine lM_chosen C hP (by omega) dX2_lastTaker_17 ?_
    refine lv_if_eq (tgt := 36) hx hb dX2_lastTaker_18 (by decide) (fun c2 => ?_) (fun c2 => ?_)
    · have c2 : (ch i) = false := (bI_z (ch i)).mp c2
      refine lv_iload_n hx hb dX2_lastTaker_36 rfl (lv_at hl 1 rfl) ?_
      refine tp_i (y := m_last mn po an ch g (i + 1)) (last_f c2) ?_
      refine lv_istore_n (lv' := [(2, .int (m_last mn po an ch g (i + 1))), (3, .int (nI i)), (0, .ref (o 0)), (1, .int (nI g))]) hx hb dX2_lastTaker_37 rfl hl (by decide) rfl (fun ls hl => ?_)
      refine lv_iinc (v := nI (i + 1)) (lv' := [(3, .int (nI (i + 1))), (2, .int (m_last mn po an ch g (i + 1))), (0, .ref (o 0)), (1, .int (nI g))]) hx hb dX2_lastTaker_38 hl (k := 1) rfl (nI_1 i) (by decide) rfl (fun ls hl => ?_)
      refine lv_goto (tgt := 4) hx hb dX2_lastTaker_41 (by decide) ?_
      exact ihi (by omega) ls (lv_sub hl [0, 1, 2, 3] rfl)
    · have c2 : (ch i) = true := (bI_nz (ch i)).mp c2
      refine lv_aload_n hx hb dX2_lastTaker_21 rfl (lv_at hl 2 rfl) ?_
      refine lv_iload_n hx hb dX2_lastTaker_22 rfl (lv_at hl 0 rfl) ?_
      refine lv_iload_n hx hb dX2_lastTaker_23 rfl (lv_at hl 3 rfl) ?_
      refine pv (va_runV (As := [.int (nI i), .int (nI g)]) (rest := []) ⟨hx, hb, hml, hown, hts⟩ (cM_netAt l hP (Nat.lt_of_lt_of_le hin hok.1) (hok.2.1 i hin).1 (hok.2.1 i hin).2.1 hg) (cwV 2 hts gM_60 rfl rfl rfl (by decide +kernel) (rmF hR (by decide) (by decide))) (kP_V C (va_recv C.2.2.2.2.1 hP (ci := ciM) (q0 := 0) rfl rfl)) rfl rfl hl.1 rfl (lv_room (Nat.le_of_ble_eq_true rfl)) dX2_lastTaker_24 ⟨hR.2.2.1, hR.2.2.2⟩) ?_
      refine lv_lconst (v := 0) hx hb dX2_lastTaker_27 (by decide) ?_
      refine W.lcmp hx hb dX2_lastTaker_28 ?_
      refine lv_if_ge (tgt := 36) hx hb dX2_lastTaker_29 (by decide) (fun c3 => ?_) (fun c3 => ?_)
      · have c3 : 0 ≤ (netA mn po an i g) := (lg_cmp_ge (netA mn po an i g) 0).mp c3
        refine lv_iload_n hx hb dX2_lastTaker_36 rfl (lv_at hl 1 rfl) ?_
        refine tp_i (y := m_last mn po an ch g (i + 1)) (last_f2 (i64_le_nlt c3)) ?_
        refine lv_istore_n (lv' := [(2, .int (m_last mn po an ch g (i + 1))), (3, .int (nI i)), (0, .ref (o 0)), (1, .int (nI g))]) hx hb dX2_lastTaker_37 rfl hl (by decide) rfl (fun ls hl => ?_)
        refine lv_iinc (v := nI (i + 1)) (lv' := [(3, .int (nI (i + 1))), (2, .int (m_last mn po an ch g (i + 1))), (0, .ref (o 0)), (1, .int (nI g))]) hx hb dX2_lastTaker_38 hl (k := 1) rfl (nI_1 i) (by decide) rfl (fun ls hl => ?_)
        refine lv_goto (tgt := 4) hx hb dX2_lastTaker_41 (by decide) ?_
        exact ihi (by omega) ls (lv_sub hl [0, 1, 2, 3] rfl)
      · have c3 : ¬ 0 ≤ (netA mn po an i g) := fun z9 => c3 ((lg_cmp_ge (netA mn po an i g) 0).mpr z9)
        refine lv_iload_n hx hb dX2_lastTaker_32 rfl (lv_at hl 0 rfl) ?_
        refine lv_goto (tgt := 37) hx hb dX2_lastTaker_33 (by decide) ?_
        refine tp_i (y := m_last mn po an ch g (i + 1)) (last_t c2 (i64_nle c3)) ?_
        refine lv_istore_n (lv' := [(2, .int (m_last mn po an ch g (i + 1))), (3, .int (nI i)), (0, .ref (o 0)), (1, .int (nI g))]) hx hb dX2_lastTaker_37 rfl hl (by decide) rfl (fun ls hl => ?_)
        refine lv_iinc (v := nI (i + 1)) (lv' := [(3, .int (nI (i + 1))), (2, .int (m_last mn po an ch g (i + 1))), (0, .ref (o 0)), (1, .int (nI g))]) hx hb dX2_lastTaker_38 hl (k := 1) rfl (nI_1 i) (by decide) rfl (fun ls hl => ?_)
        refine lv_goto (tgt := 4) hx hb dX2_lastTaker_41 (by decide) ?_
        exact ihi (by omega) ls (lv_sub hl [0, 1, 2, 3] rfl)
set_option maxHeartbeats 1000000 in
set_option maxRecDepth 100000 in
theorem cM_meet (l : Launch) (hP : va_P D vwCl (mW R o K va fl n th ch mn po an) H) (hok : cl_ok mn (psM po) (amM an) va fl n) {a b : Nat} (ha : a < n) (hbn : b < n) : Met l yX2_meet (tC yX2_meet cX2_meet 5 (some .boolean)) (rmK 2 0 0) (kP D K H [.ref (o 0), .int (nI a), .int (nI b)]) (k2_QcV (.int (bI (m_meet mn po an a b (mn a))))) 0 0 (fun _ => False) := by
  refine Met.ofW (cc := cX2_meet) (maxL := 5) (ret := (some .boolean)) (by decide) rfl ?_
  intro p e s m args below meth c s₁ B hml hv
  obtain ⟨rfl, hH, hK, hN, hO⟩ := hv
  have hx := B.exec
  have hb := B.bytes
  have hr := B.returns
  have hts : ∀ w ∈ tT, w.before _ s = true := fun w h => atoms_spec (ws := tC yX2_meet cX2_meet 5 (some .boolean)) B.pre w (List.mem_cons_of_mem _ h)
  have hown : s.vm.findClass RX2 = some m.cls := findClass_of_methodNamed B.named
  have hlocks := B.notSynchronized
  have C : cx RX2 D K p s m _ c cX2_meet := ⟨hx, hb, hown, hts, hK, hN, hO⟩
  have hR : rmOk (headSpec (tC yX2_meet cX2_meet 5 (some .boolean)) (rmK 2 0 0)).room 2 0 0 := ⟨Nat.le_refl _, Nat.le_refl _, Nat.le_refl _, Nat.le_refl _⟩
  subst hH
  have hl := lv_entry ([.ref (o 0), .int (nI a), .int (nI b)]) (n := 5) (Nat.le_of_ble_eq_true rfl)
  rw [lg_entry_eq]
  generalize (lg_sl ([.ref (o 0), .int (nI a), .int (nI b)]) ++ List.replicate (5 - (lg_sl ([.ref (o 0), .int (nI a), .int (nI b)])).length) Slot.unset).toArray = ls at hl ⊢
  have hl : lv_has ls 5 [(0, .ref (o 0)), (1, .int (nI a)), (2, .int (nI b))] := hl
  have hn200 : n ≤ 200 := hok.1
  have hma : mn a ≤ 16 := (hok.2.1 a ha).1
  refine lv_iconst (v := nI 0) hx hb dX2_meet_0 (by decide) ?_
  refine tp_i (y := bI (m_meet mn po an a b 0)) (b0 rfl) ?_
  refine lv_istore_n (lv' := [(3, .int (bI (m_meet mn po an a b 0))), (0, .ref (o 0)), (1, .int (nI a)), (2, .int (nI b))]) hx hb dX2_meet_1 rfl hl (by decide) rfl (fun ls hl => ?_)
  refine lv_bipush (v := nI 16) hx hb dX2_meet_2 (by decide) ?_
  refine lv_iload_n hx hb dX2_meet_4 rfl (lv_at hl 2 rfl) ?_
  refine lv_imul hx hb dX2_meet_5 ?_
  refine tp_i (y := nI (16 * a)) (pk_mul 16 a) ?_
  refine tp_i (y := nI (16 * a + 0)) (rfl) ?_
  refine lv_istore (lv' := [(4, .int (nI (16 * a + 0))), (3, .int (bI (m_meet mn po an a b 0))), (0, .ref (o 0)), (1, .int (nI a)), (2, .int (nI b))]) hx hb dX2_meet_6 hl (by decide) rfl (fun ls hl => ?_)
  refine lpW (U := mn a) (pcH := 8) (I := fun j ls => lv_has ls 5 [(4, .int (nI (16 * a + j))), (3, .int (bI (m_meet mn po an a b j))), (0, .ref (o 0)), (1, .int (nI a)), (2, .int (nI b))]) (fun j ls hkj hI ihj => ?_) 0 ls (Nat.zero_le _) (lv_sub hl [0, 1, 2, 3, 4] rfl)
  have hl := hI
  refine lv_iload hx hb dX2_meet_8 (lv_at hl 0 rfl) ?_
  refine lv_bipush (v := nI 16) hx hb dX2_meet_10 (by decide) ?_
  refine lv_iload_n hx hb dX2_meet_12 rfl (lv_at hl 3 rfl) ?_
  refine lv_imul hx hb dX2_meet_13 ?_
  refine tp_i (y := nI (16 * a)) (pk_mul 16 a) ?_
  refine lv_aload_n hx hb dX2_meet_14 rfl (lv_at hl 2 rfl) ?_
  refine gM_many C hP dX2_meet_15 ?_
  refine lv_iload_n hx hb dX2_meet_18 rfl (lv_at hl 3 rfl) ?_
  refine lM_many C hP (by omega) dX2_meet_19 ?_
  refine lv_iadd hx hb dX2_meet_20 ?_
  refine tp_i (y := nI ((16 * a) + (mn a))) (nI_add (16 * a) (mn a)) ?_
  refine lv_icmp_ge (tgt := 69) hx hb dX2_meet_21 (by decide) (fun c1 => ?_) (fun c1 => ?_)
  · have c1 : ((16 * a) + (mn a)) ≤ (16 * a + j) := (nI_leI (by omega) (by omega)).mp c1
    rw [show j = mn a by omega] at hl
    refine lv_iload_n hx hb dX2_meet_69 rfl (lv_at hl 1 rfl) ?_
    exact W.zret (v := bI (m_meet mn po an a b (mn a))) hx hb hr (bI_narrow (m_meet mn po an a b (mn a))) (fun t ht _ => ⟨rfl, ht⟩) (fun q h => by cases h) dX2_meet_70
  · have c1 : ¬ ((16 * a) + (mn a)) ≤ (16 * a + j) := fun z9 => c1 ((nI_leI (by omega) (by omega)).mpr z9)
    have hpj : po (16 * a + j) < 300 := (hok.2.1 a ha).2.1 j (by omega)
    refine lv_iload_n hx hb dX2_meet_24 rfl (lv_at hl 1 rfl) ?_
    refine lv_if_ne (tgt := 57) hx hb dX2_meet_25 (by decide) (fun c2 => ?_) (fun c2 => ?_)
    · have c2 : (m_meet mn po an a b j) = true := (bI_nz (m_meet mn po an a b j)).mp c2
      refine lv_iconst (v := nI 1) hx hb dX2_meet_57 (by decide) ?_
      refine lv_goto (tgt := 62) hx hb dX2_meet_58 (by decide) ?_
      refine tp_i (y := bI (m_meet mn po an a b (j + 1))) (b1 (meet_1 c2)) ?_
      refine lv_istore_n (lv' := [(3, .int (bI (m_meet mn po an a b (j + 1)))), (4, .int (nI (16 * a + j))), (0, .ref (o 0)), (1, .int (nI a)), (2, .int (nI b))]) hx hb dX2_meet_62 rfl hl (by decide) rfl (fun ls hl => ?_)
      refine lv_iinc (v := nI ((16 * a + j) + 1)) (lv' := [(4, .int (nI ((16 * a + j) + 1))), (3, .int (bI (m_meet mn po an a b (j + 1)))), (0, .ref (o 0)), (1, .int (nI a)), (2, .int (nI b))]) hx hb dX2_meet_63 hl (k := 1) rfl (nI_1 (16 * a + j)) (by decide) rfl (fun ls hl => ?_)
      refine lv_goto (tgt := 8) hx hb dX2_meet_66 (by decide) ?_
      exact ihj (by omega) ls (lv_sub hl [0, 1, 2, 3, 4] rfl)
    · have c2 : (m_meet mn po an a b j) = false := (bI_z (m_meet mn po an a b j)).mp c2
      refine lv_aload_n hx hb dX2_meet_28 rfl (lv_at hl 2 rfl) ?_
      refine gM_amounts C hP dX2_meet_29 ?_
      refine lv_iload hx hb dX2_meet_32 (lv_at hl 0 rfl) ?_
      refine lM_amounts C hP (by omega) dX2_meet_34 ?_
      refine lv_lconst (v := 0) hx hb dX2_meet_35 (by decide) ?_
      refine W.lcmp hx hb dX2_meet_36 ?_
      refine lv_if_ge (tgt := 61) hx hb dX2_meet_37 (by decide) (fun c3 => ?_) (fun c3 => ?_)
      · have c3 : 0 ≤ (an (16 * a + j)) := (lg_cmp_ge (an (16 * a + j)) 0).mp c3
        refine lv_iconst (v := nI 0) hx hb dX2_meet_61 (by decide) ?_
        refine tp_i (y := bI (m_meet mn po an a b (j + 1))) (b0 (meet_3 c2 (i64_le_nlt c3))) ?_
        refine lv_istore_n (lv' := [(3, .int (bI (m_meet mn po an a b (j + 1)))), (4, .int (nI (16 * a + j))), (0, .ref (o 0)), (1, .int (nI a)), (2, .int (nI b))]) hx hb dX2_meet_62 rfl hl (by decide) rfl (fun ls hl => ?_)
        refine lv_iinc (v := nI ((16 * a + j) + 1)) (lv' := [(4, .int (nI ((16 * a + j) + 1))), (3, .int (bI (m_meet mn po an a b (j + 1)))), (0, .ref (o 0)), (1, .int (nI a)), (2, .int (nI b))]) hx hb dX2_meet_63 hl (k := 1) rfl (nI_1 (16 * a + j)) (by decide) rfl (fun ls hl => ?_)
        refine lv_goto (tgt := 8) hx hb dX2_meet_66 (by decide) ?_
        exact ihj (by omega) ls (lv_sub hl [0, 1, 2, 3, 4] rfl)
      · have c3 : ¬ 0 ≤ (an (16 * a + j)) := fun z9 => c3 ((lg_cmp_ge (an (16 * a + j)) 0).mpr z9)
        refine lv_aload_n hx hb dX2_meet_40 rfl (lv_at hl 2 rfl) ?_
        refine lv_iload_n hx hb dX2_meet_41 rfl (lv_at hl 4 rfl) ?_
        refine lv_aload_n hx hb dX2_meet_42 rfl (lv_at hl 2 rfl) ?_
        refine gM_positions C hP dX2_meet_43 ?_
        refine lv_iload hx hb dX2_meet_46 (lv_at hl 0 rfl) ?_
        refine lM_positions C hP (by omega) dX2_meet_48 ?_
        refine pv (va_runV (As := [.int (nI b), .int (nI (po (16 * a + j)))]) (rest := []) ⟨hx, hb, hml, hown, hts⟩ (cM_netAt l hP (Nat.lt_of_lt_of_le hbn hok.1) (hok.2.1 b hbn).1 (hok.2.1 b hbn).2.1 hpj) (cwV 2 hts gM_60 rfl rfl rfl (by decide +kernel) (rmF hR (by decide) (by decide))) (kP_V C (va_recv C.2.2.2.2.1 hP (ci := ciM) (q0 := 0) rfl rfl)) rfl rfl hl.1 rfl (lv_room (Nat.le_of_ble_eq_true rfl)) dX2_meet_49 ⟨hR.2.2.1, hR.2.2.2⟩) ?_
        refine lv_lconst (v := 0) hx hb dX2_meet_52 (by decide) ?_
        refine W.lcmp hx hb dX2_meet_53 ?_
        refine lv_if_ge (tgt := 61) hx hb dX2_meet_54 (by decide) (fun c4 => ?_) (fun c4 => ?_)
        · have c4 : 0 ≤ (netA mn po an b (po (16 * a + j))) := (lg_cmp_ge (netA mn po an b (po (16 * a + j))) 0).mp c4
          refine lv_iconst (v := nI 0) hx hb dX2_meet_61 (by decide) ?_
          refine tp_i (y := bI (m_meet mn po an a b (j + 1))) (b0 (meet_4 c2 (i64_le_nlt c4))) ?_
          refine lv_istore_n (lv' := [(3, .int (bI (m_meet mn po an a b (j + 1)))), (4, .int (nI (16 * a + j))), (0, .ref (o 0)), (1, .int (nI a)), (2, .int (nI b))]) hx hb dX2_meet_62 rfl hl (by decide) rfl (fun ls hl => ?_)
          refine lv_iinc (v := nI ((16 * a + j) + 1)) (lv' := [(4, .int (nI ((16 * a + j) + 1))), (3, .int (bI (m_meet mn po an a b (j + 1)))), (0, .ref (o 0)), (1, .int (nI a)), (2, .int (nI b))]) hx hb dX2_meet_63 hl (k := 1) rfl (nI_1 (16 * a + j)) (by decide) rfl (fun ls hl => ?_)
          refine lv_goto (tgt := 8) hx hb dX2_meet_66 (by decide) ?_
          exact ihj (by omega) ls (lv_sub hl [0, 1, 2, 3, 4] rfl)
        · have c4 : ¬ 0 ≤ (netA mn po an b (po (16 * a + j))) := fun z9 => c4 ((lg_cmp_ge (netA mn po an b (po (16 * a + j))) 0).mpr z9)
          refine lv_iconst (v := nI 1) hx hb dX2_meet_57 (by decide) ?_
          refine lv_goto (tgt := 62) hx hb dX2_meet_58 (by decide) ?_
          refine tp_i (y := bI (m_meet mn po an a b (j + 1))) (b1 (meet_2 (i64_nle c3) (i64_nle c4))) ?_
          refine lv_istore_n (lv' := [(3, .int (bI (m_meet mn po an a b (j + 1)))), (4, .int (nI (16 * a + j))), (0, .ref (o 0)), (1, .int (nI a)), (2, .int (nI b))]) hx hb dX2_meet_62 rfl hl (by decide) rfl (fun ls hl => ?_)
          refine lv_iinc (v := nI ((16 * a + j) + 1)) (lv' := [(4, .int (nI ((16 * a + j) + 1))), (3, .int (bI (m_meet mn po an a b (j + 1)))), (0, .ref (o 0)), (1, .int (nI a)), (2, .int (nI b))]) hx hb dX2_meet_63 hl (k := 1) rfl (nI_1 (16 * a + j)) (by decide) rfl (fun ls hl => ?_)
          refine lv_goto (tgt := 8) hx hb dX2_meet_66 (by decide) ?_
          exact ihj (by omega) ls (lv_sub hl [0, 1, 2, 3, 4] rfl)
set_option maxHeartbeats 1000000 in
set_option maxRecDepth 100000 in
theorem cM_lacks (l : Launch) (hP : va_P D vwCl (mW R o K va fl n th ch mn po an) H) (hok : cl_ok mn (psM po) (amM an) va fl n) {i : Nat} (hi : i < n) : Met l yX2_lacks (tC yX2_lacks cX2_lacks 4 (some .boolean)) (rmK 3 0 0) (kP D K H [.ref (o 0), .int (nI i)]) (k2_QcV (.int (bI (m_lack mn po an th ch i i)))) 0 0 (fun _ => False) := by
  refine Met.ofW (cc := cX2_lacks) (maxL := 4) (ret := (some .boolean)) (by decide) rfl ?_
  intro p e s m args below meth c s₁ B hml hv
  obtain ⟨rfl, hH, hK, hN, hO⟩ := hv
  have hx := B.exec
  have hb := B.bytes
  have hr := B.returns
  have hts : ∀ w ∈ tT, w.before _ s = true := fun w h => atoms_spec (ws := tC yX2_lacks cX2_lacks 4 (some .boolean)) B.pre w (List.mem_cons_of_mem _ h)
  have hown : s.vm.findClass RX2 = some m.cls := findClass_of_methodNamed B.named
  have hlocks := B.notSynchronized
  have C : cx RX2 D K p s m _ c cX2_lacks := ⟨hx, hb, hown, hts, hK, hN, hO⟩
  have hR : rmOk (headSpec (tC yX2_lacks cX2_lacks 4 (some .boolean)) (rmK 3 0 0)).room 3 0 0 := ⟨Nat.le_refl _, Nat.le_refl _, Nat.le_refl _, Nat.le_refl _⟩
  subst hH
  have hl := lv_entry ([.ref (o 0), .int (nI i)]) (n := 4) (Nat.le_of_ble_eq_true rfl)
  rw [lg_entry_eq]
  generalize (lg_sl ([.ref (o 0), .int (nI i)]) ++ List.replicate (4 - (lg_sl ([.ref (o 0), .int (nI i)])).length) Slot.unset).toArray = ls at hl ⊢
  have hl : lv_has ls 4 [(0, .ref (o 0)), (1, .int (nI i))] := hl
  have hn200 : n ≤ 200 := hok.1
  refine lv_iconst (v := nI 0) hx hb dX2_lacks_0 (by decide) ?_
  refine tp_i (y := bI (m_lack mn po an th ch i 0)) (b0 rfl) ?_
  refine lv_istore_n (lv' := [(2, .int (bI (m_lack mn po an th ch i 0))), (0, .ref (o 0)), (1, .int (nI i))]) hx hb dX2_lacks_1 rfl hl (by decide) rfl (fun ls hl => ?_)
  refine lv_iconst (v := nI 0) hx hb dX2_lacks_2 (by decide) ?_
  refine lv_istore_n (lv' := [(3, .int (nI 0)), (2, .int (bI (m_lack mn po an th ch i 0))), (0, .ref (o 0)), (1, .int (nI i))]) hx hb dX2_lacks_3 rfl hl (by decide) rfl (fun ls hl => ?_)
  refine lpW (U := i) (pcH := 4) (I := fun j ls => lv_has ls 4 [(3, .int (nI j)), (2, .int (bI (m_lack mn po an th ch i j))), (0, .ref (o 0)), (1, .int (nI i))]) (fun j ls hkj hI ihj => ?_) 0 ls (Nat.zero_le _) (lv_sub hl [0, 1, 2, 3] rfl)
  have hl := hI
  refine lv_iload_n hx hb dX2_lacks_4 rfl (lv_at hl 0 rfl) ?_
  refine lv_iload_n hx hb dX2_lacks_5 rfl (lv_at hl 3 rfl) ?_
  refine lv_icmp_ge (tgt := 52) hx hb dX2_lacks_6 (by decide) (fun c1 => ?_) (fun c1 => ?_)
  · have c1 : i ≤ j := (nI_leI (by omega) (by omega)).mp c1
    rw [show j = i by omega] at hl
    refine lv_iload_n hx hb dX2_lacks_52 rfl (lv_at hl 1 rfl) ?_
    exact W.zret (v := bI (m_lack mn po an th ch i i)) hx hb hr (bI_narrow (m_lack mn po an th ch i i)) (fun t ht _ => ⟨rfl, ht⟩) (fun q h => by cases h) dX2_lacks_53
  · have c1 : ¬ i ≤ j := fun z9 => c1 ((nI_leI (by omega) (by omega)).mpr z9)
    refine lv_iload_n hx hb dX2_lacks_9 rfl (lv_at hl 1 rfl) ?_
    refine lv_if_ne (tgt := 40) hx hb dX2_lacks_10 (by decide) (fun c2 => ?_) (fun c2 => ?_)
    · have c2 : (m_lack mn po an th ch i j) = true := (bI_nz (m_lack mn po an th ch i j)).mp c2
      refine lv_iconst (v := nI 1) hx hb dX2_lacks_40 (by decide) ?_
      refine lv_goto (tgt := 45) hx hb dX2_lacks_41 (by decide) ?_
      refine tp_i (y := bI (m_lack mn po an th ch i (j + 1))) (b1 (lack_1 c2)) ?_
      refine lv_istore_n (lv' := [(2, .int (bI (m_lack mn po an th ch i (j + 1)))), (3, .int (nI j)), (0, .ref (o 0)), (1, .int (nI i))]) hx hb dX2_lacks_45 rfl hl (by decide) rfl (fun ls hl => ?_)
      refine lv_iinc (v := nI (j + 1)) (lv' := [(3, .int (nI (j + 1))), (2, .int (bI (m_lack mn po an th ch i (j + 1)))), (0, .ref (o 0)), (1, .int (nI i))]) hx hb dX2_lacks_46 hl (k := 1) rfl (nI_1 j) (by decide) rfl (fun ls hl => ?_)
      refine lv_goto (tgt := 4) hx hb dX2_lacks_49 (by decide) ?_
      exact ihj (by omega) ls (lv_sub hl [0, 1, 2, 3] rfl)
    · have c2 : (m_lack mn po an th ch i j) = false := (bI_z (m_lack mn po an th ch i j)).mp c2
      refine lv_aload_n hx hb dX2_lacks_13 rfl (lv_at hl 2 rfl) ?_
      refine gM_there C hP dX2_lacks_14 ?_
      refine lv_iload_n hx hb dX2_lacks_17 rfl (lv_at hl 0 rfl) ?_
      refine lM_there C hP (by omega) dX2_lacks_18 ?_
      refine lv_if_eq (tgt := 44) hx hb dX2_lacks_19 (by decide) (fun c3 => ?_) (fun c3 => ?_)
      · have c3 : (th j) = false := (bI_z (th j)).mp c3
        refine lv_iconst (v := nI 0) hx hb dX2_lacks_44 (by decide) ?_
        refine tp_i (y := bI (m_lack mn po an th ch i (j + 1))) (b0 (lack_3 c2 c3)) ?_
        refine lv_istore_n (lv' := [(2, .int (bI (m_lack mn po an th ch i (j + 1)))), (3, .int (nI j)), (0, .ref (o 0)), (1, .int (nI i))]) hx hb dX2_lacks_45 rfl hl (by decide) rfl (fun ls hl => ?_)
        refine lv_iinc (v := nI (j + 1)) (lv' := [(3, .int (nI (j + 1))), (2, .int (bI (m_lack mn po an th ch i (j + 1)))), (0, .ref (o 0)), (1, .int (nI i))]) hx hb dX2_lacks_46 hl (k := 1) rfl (nI_1 j) (by decide) rfl (fun ls hl => ?_)
        refine lv_goto (tgt := 4) hx hb dX2_lacks_49 (by decide) ?_
        exact ihj (by omega) ls (lv_sub hl [0, 1, 2, 3] rfl)
      · have c3 : (th j) = true := (bI_nz (th j)).mp c3
        refine lv_aload_n hx hb dX2_lacks_22 rfl (lv_at hl 2 rfl) ?_
        refine gM_chosen C hP dX2_lacks_23 ?_
        refine lv_iload_n hx hb dX2_lacks_26 rfl (lv_at hl 0 rfl) ?_
        refine lM_chosen C hP (by omega) dX2_lacks_27 ?_
        refine lv_if_ne (tgt := 44) hx hb dX2_lacks_28 (by decide) (fun c4 => ?_) (fun c4 => ?_)
        · have c4 : (ch j) = true := (bI_nz (ch j)).mp c4
          refine lv_iconst (v := nI 0) hx hb dX2_lacks_44 (by decide) ?_
          refine tp_i (y := bI (m_lack mn po an th ch i (j + 1))) (b0 (lack_4 c2 c4)) ?_
          refine lv_istore_n (lv' := [(2, .int (bI (m_lack mn po an th ch i (j + 1)))), (3, .int (nI j)), (0, .ref (o 0)), (1, .int (nI i))]) hx hb dX2_lacks_45 rfl hl (by decide) rfl (fun ls hl => ?_)
          refine lv_iinc (v := nI (j + 1)) (lv' := [(3, .int (nI (j + 1))), (2, .int (bI (m_lack mn po an th ch i (j + 1)))), (0, .ref (o 0)), (1, .int (nI i))]) hx hb dX2_lacks_46 hl (k := 1) rfl (nI_1 j) (by decide) rfl (fun ls hl => ?_)
          refine lv_goto (tgt := 4) hx hb dX2_lacks_49 (by decide) ?_
          exact ihj (by omega) ls (lv_sub hl [0, 1, 2, 3] rfl)
        · have c4 : (ch j) = false := (bI_z (ch j)).mp c4
          refine lv_aload_n hx hb dX2_lacks_31 rfl (lv_at hl 2 rfl) ?_
          refine lv_iload_n hx hb dX2_lacks_32 rfl (lv_at hl 0 rfl) ?_
          refine lv_iload_n hx hb dX2_lacks_33 rfl (lv_at hl 3 rfl) ?_
          refine pv (va_runV (As := [.int (nI j), .int (nI i)]) (rest := []) ⟨hx, hb, hml, hown, hts⟩ (cM_meet l hP hok (show j < n by omega) hi) (cwV 2 hts gM_68 rfl rfl rfl (by decide +kernel) (rmF hR (by decide) (by decide))) (kP_V C (va_recv C.2.2.2.2.1 hP (ci := ciM) (q0 := 0) rfl rfl)) rfl rfl hl.1 rfl (lv_room (Nat.le_of_ble_eq_true rfl)) dX2_lacks_34 ⟨hR.2.2.1, hR.2.2.2⟩) ?_
          refine lv_if_eq (tgt := 44) hx hb dX2_lacks_37 (by decide) (fun c5 => ?_) (fun c5 => ?_)
          · have c5 : (m_meet mn po an j i (mn j)) = false := (bI_z (m_meet mn po an j i (mn j))).mp c5
            refine lv_iconst (v := nI 0) hx hb dX2_lacks_44 (by decide) ?_
            refine tp_i (y := bI (m_lack mn po an th ch i (j + 1))) (b0 (lack_5 c2 c5)) ?_
            refine lv_istore_n (lv' := [(2, .int (bI (m_lack mn po an th ch i (j + 1)))), (3, .int (nI j)), (0, .ref (o 0)), (1, .int (nI i))]) hx hb dX2_lacks_45 rfl hl (by decide) rfl (fun ls hl => ?_)
            refine lv_iinc (v := nI (j + 1)) (lv' := [(3, .int (nI (j + 1))), (2, .int (bI (m_lack mn po an th ch i (j + 1)))), (0, .ref (o 0)), (1, .int (nI i))]) hx hb dX2_lacks_46 hl (k := 1) rfl (nI_1 j) (by decide) rfl (fun ls hl => ?_)
            refine lv_goto (tgt := 4) hx hb dX2_lacks_49 (by decide) ?_
            exact ihj (by omega) ls (lv_sub hl [0, 1, 2, 3] rfl)
          · have c5 : (m_meet mn po an j i (mn j)) = true := (bI_nz (m_meet mn po an j i (mn j))).mp c5
            refine lv_iconst (v := nI 1) hx hb dX2_lacks_40 (by decide) ?_
            refine lv_goto (tgt := 45) hx hb dX2_lacks_41 (by decide) ?_
            refine tp_i (y := bI (m_lack mn po an th ch i (j + 1))) (b1 (lack_2 c3 c4 c5)) ?_
            refine lv_istore_n (lv' := [(2, .int (bI (m_lack mn po an th ch i (j + 1)))), (3, .int (nI j)), (0, .ref (o 0)), (1, .int (nI i))]) hx hb dX2_lacks_45 rfl hl (by decide) rfl (fun ls hl => ?_)
            refine lv_iinc (v := nI (j + 1)) (lv' := [(3, .int (nI (j + 1))), (2, .int (bI (m_lack mn po an th ch i (j + 1)))), (0, .ref (o 0)), (1, .int (nI i))]) hx hb dX2_lacks_46 hl (k := 1) rfl (nI_1 j) (by decide) rfl (fun ls hl => ?_)
            refine lv_goto (tgt := 4) hx hb dX2_lacks_49 (by decide) ?_
            exact ihj (by omega) ls (lv_sub hl [0, 1, 2, 3] rfl)
set_option maxHeartbeats 1000000 in
set_option maxRecDepth 100000 in
theorem cM_net_no (l : Launch) (hP : va_P D vwCl (mW R o K va fl n th ch mn po an) H) (hn200 : n ≤ 200) (x y : Int32) (v : Int64) (h : nT n th x) : Met l yX2_net (tC yX2_net cX2_net 9 (some .boolean)) (rmK 2 0 0) (kP D K H [.ref (o 0), .int x, .int y, .long v]) (k2_QcV (.int (nI 0))) 0 0 (fun _ => False) := by
  refine Met.ofW (cc := cX2_net) (maxL := 9) (ret := (some .boolean)) (by decide) rfl ?_
  intro p e s m args below meth c s₁ B hml hv
  obtain ⟨rfl, hH, hK, hN, hO⟩ := hv
  have hx := B.exec
  have hb := B.bytes
  have hr := B.returns
  have hts : ∀ w ∈ tT, w.before _ s = true := fun w h => atoms_spec (ws := tC yX2_net cX2_net 9 (some .boolean)) B.pre w (List.mem_cons_of_mem _ h)
  have hown : s.vm.findClass RX2 = some m.cls := findClass_of_methodNamed B.named
  have hlocks := B.notSynchronized
  have C : cx RX2 D K p s m _ c cX2_net := ⟨hx, hb, hown, hts, hK, hN, hO⟩
  have hR : rmOk (headSpec (tC yX2_net cX2_net 9 (some .boolean)) (rmK 2 0 0)).room 2 0 0 := ⟨Nat.le_refl _, Nat.le_refl _, Nat.le_refl _, Nat.le_refl _⟩
  subst hH
  have hl := lv_entry ([.ref (o 0), .int x, .int y, .long v]) (n := 9) (Nat.le_of_ble_eq_true rfl)
  rw [lg_entry_eq]
  generalize (lg_sl ([.ref (o 0), .int x, .int y, .long v]) ++ List.replicate (9 - (lg_sl ([.ref (o 0), .int x, .int y, .long v])).length) Slot.unset).toArray = ls at hl ⊢
  have hl : lv_has ls 9 [(0, .ref (o 0)), (1, .int x), (2, .int y), (3, .long v)] := hl
  refine lv_aload_n hx hb dX2_net_0 rfl (lv_at hl 0 rfl) ?_
  refine lv_iload_n hx hb dX2_net_1 rfl (lv_at hl 1 rfl) ?_
  refine pv (va_runV (As := [.int x]) (rest := []) ⟨hx, hb, hml, hown, hts⟩ (cM_isThere_no l hP hn200 x h) (cwV 1 hts gM_53 rfl rfl rfl (by decide +kernel) (rmF hR (by decide) (by decide))) (kP_V C (va_recv C.2.2.2.2.1 hP (ci := ciM) (q0 := 0) rfl rfl)) rfl rfl hl.1 rfl (lv_room (Nat.le_of_ble_eq_true rfl)) dX2_net_2 ⟨hR.2.2.1, hR.2.2.2⟩) ?_
  refine lv_if_eq (tgt := 15) hx hb dX2_net_5 (by decide) (fun c1 => ?_) (fun c1 => ?_)
  · refine lv_iconst (v := nI 0) hx hb dX2_net_15 (by decide) ?_
    exact W.zret (v := nI 0) hx hb hr (by decide) (fun t ht _ => ⟨rfl, ht⟩) (fun q h => by cases h) dX2_net_16
  · exact absurd (by decide) c1
set_option maxHeartbeats 1000000 in
set_option maxRecDepth 100000 in
theorem cM_net_no2 (l : Launch) (hP : va_P D vwCl (mW R o K va fl n th ch mn po an) H) (hn200 : n ≤ 200) {i : Nat} (hi : i < n) (hT : th i = true) (y : Int32) (v : Int64) (h : isP y = false) : Met l yX2_net (tC yX2_net cX2_net 9 (some .boolean)) (rmK 2 0 0) (kP D K H [.ref (o 0), .int (nI i), .int y, .long v]) (k2_QcV (.int (nI 0))) 0 0 (fun _ => False) := by
  refine Met.ofW (cc := cX2_net) (maxL := 9) (ret := (some .boolean)) (by decide) rfl ?_
  intro p e s m args below meth c s₁ B hml hv
  obtain ⟨rfl, hH, hK, hN, hO⟩ := hv
  have hx := B.exec
  have hb := B.bytes
  have hr := B.returns
  have hts : ∀ w ∈ tT, w.before _ s = true := fun w h => atoms_spec (ws := tC yX2_net cX2_net 9 (some .boolean)) B.pre w (List.mem_cons_of_mem _ h)
  have hown : s.vm.findClass RX2 = some m.cls := findClass_of_methodNamed B.named
  have hlocks := B.notSynchronized
  have C : cx RX2 D K p s m _ c cX2_net := ⟨hx, hb, hown, hts, hK, hN, hO⟩
  have hR : rmOk (headSpec (tC yX2_net cX2_net 9 (some .boolean)) (rmK 2 0 0)).room 2 0 0 := ⟨Nat.le_refl _, Nat.le_refl _, Nat.le_refl _, Nat.le_refl _⟩
  subst hH
  have hl := lv_entry ([.ref (o 0), .int (nI i), .int y, .long v]) (n := 9) (Nat.le_of_ble_eq_true rfl)
  rw [lg_entry_eq]
  generalize (lg_sl ([.ref (o 0), .int (nI i), .int y, .long v]) ++ List.replicate (9 - (lg_sl ([.ref (o 0), .int (nI i), .int y, .long v])).length) Slot.unset).toArray = ls at hl ⊢
  have hl : lv_has ls 9 [(0, .ref (o 0)), (1, .int (nI i)), (2, .int y), (3, .long v)] := hl
  refine lv_aload_n hx hb dX2_net_0 rfl (lv_at hl 0 rfl) ?_
  refine lv_iload_n hx hb dX2_net_1 rfl (lv_at hl 1 rfl) ?_
  refine pv (va_runV (As := [.int (nI i)]) (rest := []) ⟨hx, hb, hml, hown, hts⟩ (cM_isThere l hP hn200 hi hT) (cwV 1 hts gM_53 rfl rfl rfl (by decide +kernel) (rmF hR (by decide) (by decide))) (kP_V C (va_recv C.2.2.2.2.1 hP (ci := ciM) (q0 := 0) rfl rfl)) rfl rfl hl.1 rfl (lv_room (Nat.le_of_ble_eq_true rfl)) dX2_net_2 ⟨hR.2.2.1, hR.2.2.2⟩) ?_
  refine lv_if_eq (tgt := 15) hx hb dX2_net_5 (by decide) (fun c1 => ?_) (fun c1 => ?_)
  · exact absurd c1 (by decide)
  · refine lv_iload_n hx hb dX2_net_8 rfl (lv_at hl 2 rfl) ?_
    refine pv (va_runS (As := [.int y]) (rest := []) ⟨hx, hb, hml, hown, hts⟩ (cM_isPosition l y) (cwS 1 hts gM_37 rfl rfl rfl (by decide +kernel) (rmF hR (by decide) (by decide))) (kP_S C) rfl rfl hl.1 rfl (lv_room (Nat.le_of_ble_eq_true rfl)) dX2_net_9 ⟨hR.2.2.1, hR.2.2.2⟩) ?_
    refine lv_if_ne (tgt := 17) hx hb dX2_net_12 (by decide) (fun c2 => ?_) (fun c2 => ?_)
    · have c2 : (isP y) = true := (bI_nz (isP y)).mp c2
      exact absurd (c2.symm.trans h) (by decide)
    · have c2 : (isP y) = false := (bI_z (isP y)).mp c2
      refine lv_iconst (v := nI 0) hx hb dX2_net_15 (by decide) ?_
      exact W.zret (v := nI 0) hx hb hr (by decide) (fun t ht _ => ⟨rfl, ht⟩) (fun q h => by cases h) dX2_net_16
set_option maxHeartbeats 1000000 in
set_option maxRecDepth 100000 in
theorem cM_net (l : Launch) (hP : va_P D vwCl (mW R o K va fl n th ch mn po an) H) (hD : va_D A (mW R o K va fl n th ch mn po an)) (hn200 : n ≤ 200) {i : Nat} (hi : i < n) (hT : th i = true) (hmi : mn i ≤ 16) (hpo : ∀ k, k < mn i → psM po i k < 300) {g : Nat} (hg : g < 300) (v : Int64) : Met l yX2_net (tC yX2_net cX2_net 9 (some .boolean)) (rmK 2 0 0) (kP D K H [.ref (o 0), .int (nI i), .int (nI g), .long v]) (qI D A (fun (r : Int32) (u : Unit) => r = bI (chM mn po an i g v).1) (fun u : Unit => mW R o K va fl n th ch (chM mn po an i g v).2.1 (chM mn po an i g v).2.2.1 (chM mn po an i g v).2.2.2)) 0 0 A := by
  refine Met.ofW (cc := cX2_net) (maxL := 9) (ret := (some .boolean)) (by decide) rfl ?_
  intro p e s m args below meth c s₁ B hml hv
  obtain ⟨rfl, hH, hK, hN, hO⟩ := hv
  have hx := B.exec
  have hb := B.bytes
  have hr := B.returns
  have hts : ∀ w ∈ tT, w.before _ s = true := fun w h => atoms_spec (ws := tC yX2_net cX2_net 9 (some .boolean)) B.pre w (List.mem_cons_of_mem _ h)
  have hown : s.vm.findClass RX2 = some m.cls := findClass_of_methodNamed B.named
  have hlocks := B.notSynchronized
  have C : cx RX2 D K p s m _ c cX2_net := ⟨hx, hb, hown, hts, hK, hN, hO⟩
  have hR : rmOk (headSpec (tC yX2_net cX2_net 9 (some .boolean)) (rmK 2 0 0)).room 2 0 0 := ⟨Nat.le_refl _, Nat.le_refl _, Nat.le_refl _, Nat.le_refl _⟩
  subst hH
  have hS : va_S A s.heap s.heap [] := va_S.rf
  have hl := lv_entry ([.ref (o 0), .int (nI i), .int (nI g), .long v]) (n := 9) (Nat.le_of_ble_eq_true rfl)
  rw [lg_entry_eq]
  generalize (lg_sl ([.ref (o 0), .int (nI i), .int (nI g), .long v]) ++ List.replicate (9 - (lg_sl ([.ref (o 0), .int (nI i), .int (nI g), .long v])).length) Slot.unset).toArray = ls at hl ⊢
  have hl : lv_has ls 9 [(0, .ref (o 0)), (1, .int (nI i)), (2, .int (nI g)), (3, .long v)] := hl
  have hle : mfd mn po i g ≤ 16 * i + mn i := fs_le _ _ _
  have hge : 16 * i ≤ mfd mn po i g := fs_ge _ _ _
  have hi2 : i < 200 := by omega
  refine lv_aload_n hx hb dX2_net_0 rfl (lv_at hl 0 rfl) ?_
  refine lv_iload_n hx hb dX2_net_1 rfl (lv_at hl 1 rfl) ?_
  refine pv (va_runV (As := [.int (nI i)]) (rest := []) ⟨hx, hb, hml, hown, hts⟩ (cM_isThere l hP hn200 hi hT) (cwV 1 hts gM_53 rfl rfl rfl (by decide +kernel) (rmF hR (by decide) (by decide))) (kP_V C (va_recv C.2.2.2.2.1 hP (ci := ciM) (q0 := 0) rfl rfl)) rfl rfl hl.1 rfl (lv_room (Nat.le_of_ble_eq_true rfl)) dX2_net_2 ⟨hR.2.2.1, hR.2.2.2⟩) ?_
  refine lv_if_eq (tgt := 15) hx hb dX2_net_5 (by decide) (fun c1 => ?_) (fun c1 => ?_)
  · exact absurd c1 (by decide)
  · refine lv_iload_n hx hb dX2_net_8 rfl (lv_at hl 2 rfl) ?_
    refine pv (va_runS (As := [.int (nI g)]) (rest := []) ⟨hx, hb, hml, hown, hts⟩ (cM_isPosition l (nI g)) (cwS 1 hts gM_37 rfl rfl rfl (by decide +kernel) (rmF hR (by decide) (by decide))) (kP_S C) rfl rfl hl.1 rfl (lv_room (Nat.le_of_ble_eq_true rfl)) dX2_net_9 ⟨hR.2.2.1, hR.2.2.2⟩) ?_
    refine lv_if_ne (tgt := 17) hx hb dX2_net_12 (by decide) (fun c2 => ?_) (fun c2 => ?_)
    · have c2 : (isP (nI g)) = true := (bI_nz (isP (nI g))).mp c2
      refine lv_lload_n hx hb dX2_net_17 rfl (lv_at hl 3 rfl) ?_
      refine lv_ldc2 (v := 2000000000000000) hx hb hown (hts _ (by decide +kernel : Cond.constantLong RX2 56 2000000000000000 ∈ tT)) dX2_net_18 ?_
      refine W.lcmp hx hb dX2_net_21 ?_
      refine lv_if_gt (tgt := 33) hx hb dX2_net_22 (by decide) (fun c3 => ?_) (fun c3 => ?_)
      · have c3 : 2000000000000000 < v := (lg_cmp_gt v 2000000000000000).mp c3
        refine lv_iconst (v := nI 0) hx hb dX2_net_33 (by decide) ?_
        have hc : chM mn po an i g v = (false, mn, po, an) := by
          unfold chM
          exact if_pos (Or.inl c3)
        have e1 : mW R o K va fl n th ch (chM mn po an i g v).2.1 (chM mn po an i g v).2.2.1 (chM mn po an i g v).2.2.2 = mW R o K va fl n th ch mn po an := by rw [hc]
        rw [← e1] at hP hD
        exact W.zret (v := nI 0) hx hb hr (by decide) (fun t ht _ => ⟨⟨_, (), rfl, b0 (by rw [hc]), by rw [ht]; exact hP, hD⟩, hS.F ht⟩) hS.2.2 dX2_net_34
      · have c3 : ¬ 2000000000000000 < v := fun z9 => c3 ((lg_cmp_gt v 2000000000000000).mpr z9)
        refine lv_lload_n hx hb dX2_net_25 rfl (lv_at hl 3 rfl) ?_
        refine lv_ldc2 (v := (-2000000000000000)) hx hb hown (hts _ (by decide +kernel : Cond.constantLong RX2 58 (-2000000000000000) ∈ tT)) dX2_net_26 ?_
        refine W.lcmp hx hb dX2_net_29 ?_
        refine lv_if_ge (tgt := 35) hx hb dX2_net_30 (by decide) (fun c4 => ?_) (fun c4 => ?_)
        · have c4 : (-2000000000000000) ≤ v := (lg_cmp_ge v (-2000000000000000)).mp c4
          have n1 : ¬ (2000000000000000 < v ∨ v < (-2000000000000000)) := fun y => y.elim c3 (i64_le_nlt c4)
          refine lv_aload_n hx hb dX2_net_35 rfl (lv_at hl 0 rfl) ?_
          refine lv_iload_n hx hb dX2_net_36 rfl (lv_at hl 1 rfl) ?_
          refine lv_iload_n hx hb dX2_net_37 rfl (lv_at hl 2 rfl) ?_
          refine pv (va_runV (As := [.int (nI i), .int (nI g)]) (rest := []) ⟨hx, hb, hml, hown, hts⟩ (cM_netAt l hP hi2 hmi hpo hg) (cwV 2 hts gM_60 rfl rfl rfl (by decide +kernel) (rmF hR (by decide) (by decide))) (kP_V C (va_recv C.2.2.2.2.1 hP (ci := ciM) (q0 := 0) rfl rfl)) rfl rfl hl.1 rfl (lv_room (Nat.le_of_ble_eq_true rfl)) dX2_net_38 ⟨hR.2.2.1, hR.2.2.2⟩) ?_
          refine lv_lload_n hx hb dX2_net_41 rfl (lv_at hl 3 rfl) ?_
          refine lv_ladd hx hb dX2_net_42 ?_
          refine tp_l (y := netA mn po an i g + v) (rfl) ?_
          generalize hs : netA mn po an i g + v = z
          refine lv_lstore (lv' := [(5, .long z), (0, .ref (o 0)), (1, .int (nI i)), (2, .int (nI g)), (3, .long v)]) hx hb dX2_net_43 hl (by decide) rfl (fun ls hl => ?_)
          refine lv_lload hx hb dX2_net_45 (lv_at hl 0 rfl) ?_
          refine lv_ldc2 (v := 1000000000000000) hx hb hown (hts _ (by decide +kernel : Cond.constantLong RX2 64 1000000000000000 ∈ tT)) dX2_net_47 ?_
          refine W.lcmp hx hb dX2_net_50 ?_
          refine lv_if_gt (tgt := 63) hx hb dX2_net_51 (by decide) (fun c5 => ?_) (fun c5 => ?_)
          · have c5 : 1000000000000000 < z := (lg_cmp_gt z 1000000000000000).mp c5
            refine lv_iconst (v := nI 0) hx hb dX2_net_63 (by decide) ?_
            have hc : chM mn po an i g v = (false, mn, po, an) := by
              unfold chM
              rw [if_neg n1, hs]
              exact if_pos (Or.inl c5)
            have e1 : mW R o K va fl n th ch (chM mn po an i g v).2.1 (chM mn po an i g v).2.2.1 (chM mn po an i g v).2.2.2 = mW R o K va fl n th ch mn po an := by rw [hc]
            rw [← e1] at hP hD
            exact W.zret (v := nI 0) hx hb hr (by decide) (fun t ht _ => ⟨⟨_, (), rfl, b0 (by rw [hc]), by rw [ht]; exact hP, hD⟩, hS.F ht⟩) hS.2.2 dX2_net_64
          · have c5 : ¬ 1000000000000000 < z := fun z9 => c5 ((lg_cmp_gt z 1000000000000000).mpr z9)
            refine lv_lload hx hb dX2_net_54 (lv_at hl 0 rfl) ?_
            refine lv_ldc2 (v := (-1000000000000000)) hx hb hown (hts _ (by decide +kernel : Cond.constantLong RX2 66 (-1000000000000000) ∈ tT)) dX2_net_56 ?_
            refine W.lcmp hx hb dX2_net_59 ?_
            refine lv_if_ge (tgt := 65) hx hb dX2_net_60 (by decide) (fun c6 => ?_) (fun c6 => ?_)
            · have c6 : (-1000000000000000) ≤ z := (lg_cmp_ge z (-1000000000000000)).mp c6
              have n2 : ¬ (1000000000000000 < z ∨ z < (-1000000000000000)) := fun y => y.elim c5 (i64_le_nlt c6)
              refine lv_aload_n hx hb dX2_net_65 rfl (lv_at hl 1 rfl) ?_
              refine lv_iload_n hx hb dX2_net_66 rfl (lv_at hl 2 rfl) ?_
              refine lv_iload_n hx hb dX2_net_67 rfl (lv_at hl 3 rfl) ?_
              refine pv (va_runV (As := [.int (nI i), .int (nI g)]) (rest := []) ⟨hx, hb, hml, hown, hts⟩ (cM_find l hP hi2 hmi hpo hg) (cwV 2 hts gM_49 rfl rfl rfl (by decide +kernel) (rmF hR (by decide) (by decide))) (kP_V C (va_recv C.2.2.2.2.1 hP (ci := ciM) (q0 := 0) rfl rfl)) rfl rfl hl.1 rfl (lv_room (Nat.le_of_ble_eq_true rfl)) dX2_net_68 ⟨hR.2.2.1, hR.2.2.2⟩) ?_
              refine lv_istore (lv' := [(7, .int (nI (mfd mn po i g))), (5, .long z), (0, .ref (o 0)), (1, .int (nI i)), (2, .int (nI g)), (3, .long v)]) hx hb dX2_net_71 hl (by decide) rfl (fun ls hl => ?_)
              refine lv_bipush (v := nI 16) hx hb dX2_net_73 (by decide) ?_
              refine lv_iload_n hx hb dX2_net_75 rfl (lv_at hl 3 rfl) ?_
              refine lv_imul hx hb dX2_net_76 ?_
              refine tp_i (y := nI (16 * i)) (pk_mul 16 i) ?_
              refine lv_aload_n hx hb dX2_net_77 rfl (lv_at hl 2 rfl) ?_
              refine gM_many C hP dX2_net_78 ?_
              refine lv_iload_n hx hb dX2_net_81 rfl (lv_at hl 3 rfl) ?_
              refine lM_many C hP (by omega) dX2_net_82 ?_
              refine lv_iadd hx hb dX2_net_83 ?_
              refine tp_i (y := nI ((16 * i) + (mn i))) (nI_add (16 * i) (mn i)) ?_
              refine lv_istore (lv' := [(8, .int (nI ((16 * i) + (mn i)))), (7, .int (nI (mfd mn po i g))), (5, .long z), (0, .ref (o 0)), (1, .int (nI i)), (2, .int (nI g)), (3, .long v)]) hx hb dX2_net_84 hl (by decide) rfl (fun ls hl => ?_)
              refine lv_iload hx hb dX2_net_86 (lv_at hl 1 rfl) ?_
              refine lv_iload hx hb dX2_net_88 (lv_at hl 0 rfl) ?_
              refine lv_icmp_ge (tgt := 148) hx hb dX2_net_90 (by decide) (fun c7 => ?_) (fun c7 => ?_)
              · have c7 : ((16 * i) + (mn i)) ≤ (mfd mn po i g) := (nI_leI (by omega) (by omega)).mp c7
                refine lv_lload hx hb dX2_net_148 (lv_at hl 2 rfl) ?_
                refine lv_lconst (v := 0) hx hb dX2_net_150 (by decide) ?_
                refine W.lcmp hx hb dX2_net_151 ?_
                refine lv_if_ne (tgt := 157) hx hb dX2_net_152 (by decide) (fun c9 => ?_) (fun c9 => ?_)
                · have c9 : ¬ z = 0 := fun z9 => c9 ((lg_cmp_eq z 0).mpr z9)
                  have n9 : ¬ z = 0 := c9
                  refine lv_iload hx hb dX2_net_157 (lv_at hl 1 rfl) ?_
                  refine lv_iload hx hb dX2_net_159 (lv_at hl 0 rfl) ?_
                  refine lv_icmp_ne (tgt := 177) hx hb dX2_net_161 (by decide) (fun d1 => ?_) (fun d1 => ?_)
                  · have d1 : ¬ (mfd mn po i g) = ((16 * i) + (mn i)) := fun z9 => d1 ((nI_eq (by omega) (by omega)).mpr z9)
                    refine lv_iload hx hb dX2_net_177 (lv_at hl 1 rfl) ?_
                    refine lv_iload hx hb dX2_net_179 (lv_at hl 0 rfl) ?_
                    refine lv_icmp_ne (tgt := 198) hx hb dX2_net_181 (by decide) (fun d2 => ?_) (fun d2 => ?_)
                    · have d2 : ¬ (mfd mn po i g) = ((16 * i) + (mn i)) := fun z9 => d2 ((nI_eq (by omega) (by omega)).mpr z9)
                      refine lv_aload_n hx hb dX2_net_198 rfl (lv_at hl 3 rfl) ?_
                      refine gM_positions C hP dX2_net_199 ?_
                      refine lv_iload hx hb dX2_net_202 (lv_at hl 1 rfl) ?_
                      refine lv_iload_n hx hb dX2_net_204 rfl (lv_at hl 5 rfl) ?_
                      refine sM_positions (x := g) C hP hD hS (by omega) dX2_net_205 (fun H locs hP hD hS => ?_)
                      refine lv_aload_n hx hb dX2_net_206 rfl (lv_at hl 3 rfl) ?_
                      refine gM_amounts C hP dX2_net_207 ?_
                      refine lv_iload hx hb dX2_net_210 (lv_at hl 1 rfl) ?_
                      refine lv_lload hx hb dX2_net_212 (lv_at hl 2 rfl) ?_
                      refine sM_amounts (x := z) C hP hD hS (by omega) dX2_net_214 (fun H locs hP hD hS => ?_)
                      refine lv_iconst (v := nI 1) hx hb dX2_net_215 (by decide) ?_
                      have hc : chM mn po an i g v = (true, mn, va_up po (mfd mn po i g) g, va_up an (mfd mn po i g) z) := by
                        unfold chM
                        rw [if_neg n1, hs, if_neg n2]
                        rw [if_neg (show ¬ (mfd mn po i g < 16 * i + mn i ∧ z = 0) from fun y => n9 y.2), if_neg n9]
                        rw [if_neg (show ¬ (mfd mn po i g = 16 * i + mn i ∧ mn i = 16) from fun y => d1 y.1)]
                        rw [if_neg (show ¬ mfd mn po i g = 16 * i + mn i from d1)]
                      have e1 : mW R o K va fl n th ch (chM mn po an i g v).2.1 (chM mn po an i g v).2.2.1 (chM mn po an i g v).2.2.2 = mW R o K va fl n th ch mn (va_up po (mfd mn po i g) g) (va_up an (mfd mn po i g) z) := by rw [hc]
                      rw [← e1] at hP hD
                      exact W.zret (v := nI 1) hx hb hr (by decide) (fun t ht _ => ⟨⟨_, (), rfl, b1 (by rw [hc]), by rw [ht]; exact hP, hD⟩, hS.F ht⟩) hS.2.2 dX2_net_216
                    · have d2 : (mfd mn po i g) = ((16 * i) + (mn i)) := (nI_eq (by omega) (by omega)).mp d2
                      exact absurd d2 d1
                  · have d1 : (mfd mn po i g) = ((16 * i) + (mn i)) := (nI_eq (by omega) (by omega)).mp d1
                    refine lv_aload_n hx hb dX2_net_164 rfl (lv_at hl 3 rfl) ?_
                    refine gM_many C hP dX2_net_165 ?_
                    refine lv_iload_n hx hb dX2_net_168 rfl (lv_at hl 4 rfl) ?_
                    refine lM_many C hP (by omega) dX2_net_169 ?_
                    refine lv_bipush (v := nI 16) hx hb dX2_net_170 (by decide) ?_
                    refine lv_icmp_ne (tgt := 177) hx hb dX2_net_172 (by decide) (fun d3 => ?_) (fun d3 => ?_)
                    · have d3 : ¬ (mn i) = 16 := fun z9 => d3 ((nI_eq (by omega) (by omega)).mpr z9)
                      refine lv_iload hx hb dX2_net_177 (lv_at hl 1 rfl) ?_
                      refine lv_iload hx hb dX2_net_179 (lv_at hl 0 rfl) ?_
                      refine lv_icmp_ne (tgt := 198) hx hb dX2_net_181 (by decide) (fun d4 => ?_) (fun d4 => ?_)
                      · have d4 : ¬ (mfd mn po i g) = ((16 * i) + (mn i)) := fun z9 => d4 ((nI_eq (by omega) (by omega)).mpr z9)
                        exact absurd d1 d4
                      · have d4 : (mfd mn po i g) = ((16 * i) + (mn i)) := (nI_eq (by omega) (by omega)).mp d4
                        refine lv_aload_n hx hb dX2_net_184 rfl (lv_at hl 3 rfl) ?_
                        refine gM_many C hP dX2_net_185 ?_
                        refine lv_iload_n hx hb dX2_net_188 rfl (lv_at hl 4 rfl) ?_
                        refine lv_aload_n hx hb dX2_net_189 rfl (lv_at hl 3 rfl) ?_
                        refine gM_many C hP dX2_net_190 ?_
                        refine lv_iload_n hx hb dX2_net_193 rfl (lv_at hl 4 rfl) ?_
                        refine lM_many C hP (by omega) dX2_net_194 ?_
                        refine lv_iconst (v := nI 1) hx hb dX2_net_195 (by decide) ?_
                        refine lv_iadd hx hb dX2_net_196 ?_
                        refine tp_i (y := nI ((mn i) + 1)) (nI_add (mn i) 1) ?_
                        refine sM_many (x := ((mn i) + 1)) C hP hD hS (by omega) dX2_net_197 (fun H locs hP hD hS => ?_)
                        refine lv_aload_n hx hb dX2_net_198 rfl (lv_at hl 3 rfl) ?_
                        refine gM_positions C hP dX2_net_199 ?_
                        refine lv_iload hx hb dX2_net_202 (lv_at hl 1 rfl) ?_
                        refine lv_iload_n hx hb dX2_net_204 rfl (lv_at hl 5 rfl) ?_
                        refine sM_positions (x := g) C hP hD hS (by omega) dX2_net_205 (fun H locs hP hD hS => ?_)
                        refine lv_aload_n hx hb dX2_net_206 rfl (lv_at hl 3 rfl) ?_
                        refine gM_amounts C hP dX2_net_207 ?_
                        refine lv_iload hx hb dX2_net_210 (lv_at hl 1 rfl) ?_
                        refine lv_lload hx hb dX2_net_212 (lv_at hl 2 rfl) ?_
                        refine sM_amounts (x := z) C hP hD hS (by omega) dX2_net_214 (fun H locs hP hD hS => ?_)
                        refine lv_iconst (v := nI 1) hx hb dX2_net_215 (by decide) ?_
                        have hc : chM mn po an i g v = (true, va_up mn i (mn i + 1), va_up po (mfd mn po i g) g, va_up an (mfd mn po i g) z) := by
                          unfold chM
                          rw [if_neg n1, hs, if_neg n2]
                          rw [if_neg (show ¬ (mfd mn po i g < 16 * i + mn i ∧ z = 0) from fun y => n9 y.2), if_neg n9]
                          rw [if_neg (show ¬ (mfd mn po i g = 16 * i + mn i ∧ mn i = 16) from fun y => d3 y.2)]
                          rw [if_pos (show mfd mn po i g = 16 * i + mn i from d1)]
                        have e1 : mW R o K va fl n th ch (chM mn po an i g v).2.1 (chM mn po an i g v).2.2.1 (chM mn po an i g v).2.2.2 = mW R o K va fl n th ch (va_up mn i ((mn i) + 1)) (va_up po (mfd mn po i g) g) (va_up an (mfd mn po i g) z) := by rw [hc]
                        rw [← e1] at hP hD
                        exact W.zret (v := nI 1) hx hb hr (by decide) (fun t ht _ => ⟨⟨_, (), rfl, b1 (by rw [hc]), by rw [ht]; exact hP, hD⟩, hS.F ht⟩) hS.2.2 dX2_net_216
                    · have d3 : (mn i) = 16 := (nI_eq (by omega) (by omega)).mp d3
                      refine lv_iconst (v := nI 0) hx hb dX2_net_175 (by decide) ?_
                      have hc : chM mn po an i g v = (false, mn, po, an) := by
                        unfold chM
                        rw [if_neg n1, hs, if_neg n2]
                        rw [if_neg (show ¬ (mfd mn po i g < 16 * i + mn i ∧ z = 0) from fun y => n9 y.2), if_neg n9]
                        exact if_pos ⟨d1, d3⟩
                      have e1 : mW R o K va fl n th ch (chM mn po an i g v).2.1 (chM mn po an i g v).2.2.1 (chM mn po an i g v).2.2.2 = mW R o K va fl n th ch mn po an := by rw [hc]
                      rw [← e1] at hP hD
                      exact W.zret (v := nI 0) hx hb hr (by decide) (fun t ht _ => ⟨⟨_, (), rfl, b0 (by rw [hc]), by rw [ht]; exact hP, hD⟩, hS.F ht⟩) hS.2.2 dX2_net_176
                · have c9 : z = 0 := (lg_cmp_eq z 0).mp c9
                  refine lv_iconst (v := nI 1) hx hb dX2_net_155 (by decide) ?_
                  have hc : chM mn po an i g v = (true, mn, po, an) := by
                    unfold chM
                    rw [if_neg n1, hs, if_neg n2]
                    rw [if_neg (show ¬ (mfd mn po i g < 16 * i + mn i ∧ z = 0) from fun y => absurd y.1 (by omega))]
                    exact if_pos c9
                  have e1 : mW R o K va fl n th ch (chM mn po an i g v).2.1 (chM mn po an i g v).2.2.1 (chM mn po an i g v).2.2.2 = mW R o K va fl n th ch mn po an := by rw [hc]
                  rw [← e1] at hP hD
                  exact W.zret (v := nI 1) hx hb hr (by decide) (fun t ht _ => ⟨⟨_, (), rfl, b1 (by rw [hc]), by rw [ht]; exact hP, hD⟩, hS.F ht⟩) hS.2.2 dX2_net_156
              · have c7 : ¬ ((16 * i) + (mn i)) ≤ (mfd mn po i g) := fun z9 => c7 ((nI_leI (by omega) (by omega)).mpr z9)
                refine lv_lload hx hb dX2_net_93 (lv_at hl 2 rfl) ?_
                refine lv_lconst (v := 0) hx hb dX2_net_95 (by decide) ?_
                refine W.lcmp hx hb dX2_net_96 ?_
                refine lv_if_ne (tgt := 148) hx hb dX2_net_97 (by decide) (fun c8 => ?_) (fun c8 => ?_)
                · have c8 : ¬ z = 0 := fun z9 => c8 ((lg_cmp_eq z 0).mpr z9)
                  refine lv_lload hx hb dX2_net_148 (lv_at hl 2 rfl) ?_
                  refine lv_lconst (v := 0) hx hb dX2_net_150 (by decide) ?_
                  refine W.lcmp hx hb dX2_net_151 ?_
                  refine lv_if_ne (tgt := 157) hx hb dX2_net_152 (by decide) (fun c9 => ?_) (fun c9 => ?_)
                  · have c9 : ¬ z = 0 := fun z9 => c9 ((lg_cmp_eq z 0).mpr z9)
                    have n9 : ¬ z = 0 := c9
                    refine lv_iload hx hb dX2_net_157 (lv_at hl 1 rfl) ?_
                    refine lv_iload hx hb dX2_net_159 (lv_at hl 0 rfl) ?_
                    refine lv_icmp_ne (tgt := 177) hx hb dX2_net_161 (by decide) (fun d1 => ?_) (fun d1 => ?_)
                    · have d1 : ¬ (mfd mn po i g) = ((16 * i) + (mn i)) := fun z9 => d1 ((nI_eq (by omega) (by omega)).mpr z9)
                      refine lv_iload hx hb dX2_net_177 (lv_at hl 1 rfl) ?_
                      refine lv_iload hx hb dX2_net_179 (lv_at hl 0 rfl) ?_
                      refine lv_icmp_ne (tgt := 198) hx hb dX2_net_181 (by decide) (fun d2 => ?_) (fun d2 => ?_)
                      · have d2 : ¬ (mfd mn po i g) = ((16 * i) + (mn i)) := fun z9 => d2 ((nI_eq (by omega) (by omega)).mpr z9)
                        refine lv_aload_n hx hb dX2_net_198 rfl (lv_at hl 3 rfl) ?_
                        refine gM_positions C hP dX2_net_199 ?_
                        refine lv_iload hx hb dX2_net_202 (lv_at hl 1 rfl) ?_
                        refine lv_iload_n hx hb dX2_net_204 rfl (lv_at hl 5 rfl) ?_
                        refine sM_positions (x := g) C hP hD hS (by omega) dX2_net_205 (fun H locs hP hD hS => ?_)
                        refine lv_aload_n hx hb dX2_net_206 rfl (lv_at hl 3 rfl) ?_
                        refine gM_amounts C hP dX2_net_207 ?_
                        refine lv_iload hx hb dX2_net_210 (lv_at hl 1 rfl) ?_
                        refine lv_lload hx hb dX2_net_212 (lv_at hl 2 rfl) ?_
                        refine sM_amounts (x := z) C hP hD hS (by omega) dX2_net_214 (fun H locs hP hD hS => ?_)
                        refine lv_iconst (v := nI 1) hx hb dX2_net_215 (by decide) ?_
                        have hc : chM mn po an i g v = (true, mn, va_up po (mfd mn po i g) g, va_up an (mfd mn po i g) z) := by
                          unfold chM
                          rw [if_neg n1, hs, if_neg n2]
                          rw [if_neg (show ¬ (mfd mn po i g < 16 * i + mn i ∧ z = 0) from fun y => n9 y.2), if_neg n9]
                          rw [if_neg (show ¬ (mfd mn po i g = 16 * i + mn i ∧ mn i = 16) from fun y => d1 y.1)]
                          rw [if_neg (show ¬ mfd mn po i g = 16 * i + mn i from d1)]
                        have e1 : mW R o K va fl n th ch (chM mn po an i g v).2.1 (chM mn po an i g v).2.2.1 (chM mn po an i g v).2.2.2 = mW R o K va fl n th ch mn (va_up po (mfd mn po i g) g) (va_up an (mfd mn po i g) z) := by rw [hc]
                        rw [← e1] at hP hD
                        exact W.zret (v := nI 1) hx hb hr (by decide) (fun t ht _ => ⟨⟨_, (), rfl, b1 (by rw [hc]), by rw [ht]; exact hP, hD⟩, hS.F ht⟩) hS.2.2 dX2_net_216
                      · have d2 : (mfd mn po i g) = ((16 * i) + (mn i)) := (nI_eq (by omega) (by omega)).mp d2
                        exact absurd d2 d1
                    · have d1 : (mfd mn po i g) = ((16 * i) + (mn i)) := (nI_eq (by omega) (by omega)).mp d1
                      refine lv_aload_n hx hb dX2_net_164 rfl (lv_at hl 3 rfl) ?_
                      refine gM_many C hP dX2_net_165 ?_
                      refine lv_iload_n hx hb dX2_net_168 rfl (lv_at hl 4 rfl) ?_
                      refine lM_many C hP (by omega) dX2_net_169 ?_
                      refine lv_bipush (v := nI 16) hx hb dX2_net_170 (by decide) ?_
                      refine lv_icmp_ne (tgt := 177) hx hb dX2_net_172 (by decide) (fun d3 => ?_) (fun d3 => ?_)
                      · have d3 : ¬ (mn i) = 16 := fun z9 => d3 ((nI_eq (by omega) (by omega)).mpr z9)
                        refine lv_iload hx hb dX2_net_177 (lv_at hl 1 rfl) ?_
                        refine lv_iload hx hb dX2_net_179 (lv_at hl 0 rfl) ?_
                        refine lv_icmp_ne (tgt := 198) hx hb dX2_net_181 (by decide) (fun d4 => ?_) (fun d4 => ?_)
                        · have d4 : ¬ (mfd mn po i g) = ((16 * i) + (mn i)) := fun z9 => d4 ((nI_eq (by omega) (by omega)).mpr z9)
                          exact absurd d1 d4
                        · have d4 : (mfd mn po i g) = ((16 * i) + (mn i)) := (nI_eq (by omega) (by omega)).mp d4
                          refine lv_aload_n hx hb dX2_net_184 rfl (lv_at hl 3 rfl) ?_
                          refine gM_many C hP dX2_net_185 ?_
                          refine lv_iload_n hx hb dX2_net_188 rfl (lv_at hl 4 rfl) ?_
                          refine lv_aload_n hx hb dX2_net_189 rfl (lv_at hl 3 rfl) ?_
                          refine gM_many C hP dX2_net_190 ?_
                          refine lv_iload_n hx hb dX2_net_193 rfl (lv_at hl 4 rfl) ?_
                          refine lM_many C hP (by omega) dX2_net_194 ?_
                          refine lv_iconst (v := nI 1) hx hb dX2_net_195 (by decide) ?_
                          refine lv_iadd hx hb dX2_net_196 ?_
                          refine tp_i (y := nI ((mn i) + 1)) (nI_add (mn i) 1) ?_
                          refine sM_many (x := ((mn i) + 1)) C hP hD hS (by omega) dX2_net_197 (fun H locs hP hD hS => ?_)
                          refine lv_aload_n hx hb dX2_net_198 rfl (lv_at hl 3 rfl) ?_
                          refine gM_positions C hP dX2_net_199 ?_
                          refine lv_iload hx hb dX2_net_202 (lv_at hl 1 rfl) ?_
                          refine lv_iload_n hx hb dX2_net_204 rfl (lv_at hl 5 rfl) ?_
                          refine sM_positions (x := g) C hP hD hS (by omega) dX2_net_205 (fun H locs hP hD hS => ?_)
                          refine lv_aload_n hx hb dX2_net_206 rfl (lv_at hl 3 rfl) ?_
                          refine gM_amounts C hP dX2_net_207 ?_
                          refine lv_iload hx hb dX2_net_210 (lv_at hl 1 rfl) ?_
                          refine lv_lload hx hb dX2_net_212 (lv_at hl 2 rfl) ?_
                          refine sM_amounts (x := z) C hP hD hS (by omega) dX2_net_214 (fun H locs hP hD hS => ?_)
                          refine lv_iconst (v := nI 1) hx hb dX2_net_215 (by decide) ?_
                          have hc : chM mn po an i g v = (true, va_up mn i (mn i + 1), va_up po (mfd mn po i g) g, va_up an (mfd mn po i g) z) := by
                            unfold chM
                            rw [if_neg n1, hs, if_neg n2]
                            rw [if_neg (show ¬ (mfd mn po i g < 16 * i + mn i ∧ z = 0) from fun y => n9 y.2), if_neg n9]
                            rw [if_neg (show ¬ (mfd mn po i g = 16 * i + mn i ∧ mn i = 16) from fun y => d3 y.2)]
                            rw [if_pos (show mfd mn po i g = 16 * i + mn i from d1)]
                          have e1 : mW R o K va fl n th ch (chM mn po an i g v).2.1 (chM mn po an i g v).2.2.1 (chM mn po an i g v).2.2.2 = mW R o K va fl n th ch (va_up mn i ((mn i) + 1)) (va_up po (mfd mn po i g) g) (va_up an (mfd mn po i g) z) := by rw [hc]
                          rw [← e1] at hP hD
                          exact W.zret (v := nI 1) hx hb hr (by decide) (fun t ht _ => ⟨⟨_, (), rfl, b1 (by rw [hc]), by rw [ht]; exact hP, hD⟩, hS.F ht⟩) hS.2.2 dX2_net_216
                      · have d3 : (mn i) = 16 := (nI_eq (by omega) (by omega)).mp d3
                        refine lv_iconst (v := nI 0) hx hb dX2_net_175 (by decide) ?_
                        have hc : chM mn po an i g v = (false, mn, po, an) := by
                          unfold chM
                          rw [if_neg n1, hs, if_neg n2]
                          rw [if_neg (show ¬ (mfd mn po i g < 16 * i + mn i ∧ z = 0) from fun y => n9 y.2), if_neg n9]
                          exact if_pos ⟨d1, d3⟩
                        have e1 : mW R o K va fl n th ch (chM mn po an i g v).2.1 (chM mn po an i g v).2.2.1 (chM mn po an i g v).2.2.2 = mW R o K va fl n th ch mn po an := by rw [hc]
                        rw [← e1] at hP hD
                        exact W.zret (v := nI 0) hx hb hr (by decide) (fun t ht _ => ⟨⟨_, (), rfl, b0 (by rw [hc]), by rw [ht]; exact hP, hD⟩, hS.F ht⟩) hS.2.2 dX2_net_176
                  · have c9 : z = 0 := (lg_cmp_eq z 0).mp c9
                    refine lv_iconst (v := nI 1) hx hb dX2_net_155 (by decide) ?_
                    have hc : chM mn po an i g v = (true, mn, po, an) := by
                      unfold chM
                      rw [if_neg n1, hs, if_neg n2]
                      rw [if_neg (show ¬ (mfd mn po i g < 16 * i + mn i ∧ z = 0) from fun y => c8 y.2)]
                      exact if_pos c9
                    have e1 : mW R o K va fl n th ch (chM mn po an i g v).2.1 (chM mn po an i g v).2.2.1 (chM mn po an i g v).2.2.2 = mW R o K va fl n th ch mn po an := by rw [hc]
                    rw [← e1] at hP hD
                    exact W.zret (v := nI 1) hx hb hr (by decide) (fun t ht _ => ⟨⟨_, (), rfl, b1 (by rw [hc]), by rw [ht]; exact hP, hD⟩, hS.F ht⟩) hS.2.2 dX2_net_156
                · have c8 : z = 0 := (lg_cmp_eq z 0).mp c8
                  have hpos : 0 < mn i := by omega
                  refine lv_aload_n hx hb dX2_net_100 rfl (lv_at hl 3 rfl) ?_
                  refine gM_positions C hP dX2_net_101 ?_
                  refine lv_iload hx hb dX2_net_104 (lv_at hl 1 rfl) ?_
                  refine lv_aload_n hx hb dX2_net_106 rfl (lv_at hl 3 rfl) ?_
                  refine gM_positions C hP dX2_net_107 ?_
                  refine lv_iload hx hb dX2_net_110 (lv_at hl 0 rfl) ?_
                  refine lv_iconst (v := nI 1) hx hb dX2_net_112 (by decide) ?_
                  refine lv_isub hx hb dX2_net_113 ?_
                  refine tp_i (y := nI (((16 * i) + (mn i)) - 1)) (pk_sub (by omega)) ?_
                  refine lM_positions C hP (by omega) dX2_net_114 ?_
                  refine sM_positions (x := (po (((16 * i) + (mn i)) - 1))) C hP hD hS (by omega) dX2_net_115 (fun H locs hP hD hS => ?_)
                  refine lv_aload_n hx hb dX2_net_116 rfl (lv_at hl 3 rfl) ?_
                  refine gM_amounts C hP dX2_net_117 ?_
                  refine lv_iload hx hb dX2_net_120 (lv_at hl 1 rfl) ?_
                  refine lv_aload_n hx hb dX2_net_122 rfl (lv_at hl 3 rfl) ?_
                  refine gM_amounts C hP dX2_net_123 ?_
                  refine lv_iload hx hb dX2_net_126 (lv_at hl 0 rfl) ?_
                  refine lv_iconst (v := nI 1) hx hb dX2_net_128 (by decide) ?_
                  refine lv_isub hx hb dX2_net_129 ?_
                  refine tp_i (y := nI (((16 * i) + (mn i)) - 1)) (pk_sub (by omega)) ?_
                  refine lM_amounts C hP (by omega) dX2_net_130 ?_
                  refine sM_amounts (x := an (((16 * i) + (mn i)) - 1)) C hP hD hS (by omega) dX2_net_131 (fun H locs hP hD hS => ?_)
                  refine lv_aload_n hx hb dX2_net_132 rfl (lv_at hl 3 rfl) ?_
                  refine gM_many C hP dX2_net_133 ?_
                  refine lv_iload_n hx hb dX2_net_136 rfl (lv_at hl 4 rfl) ?_
                  refine lv_aload_n hx hb dX2_net_137 rfl (lv_at hl 3 rfl) ?_
                  refine gM_many C hP dX2_net_138 ?_
                  refine lv_iload_n hx hb dX2_net_141 rfl (lv_at hl 4 rfl) ?_
                  refine lM_many C hP (by omega) dX2_net_142 ?_
                  refine lv_iconst (v := nI 1) hx hb dX2_net_143 (by decide) ?_
                  refine lv_isub hx hb dX2_net_144 ?_
                  refine tp_i (y := nI ((mn i) - 1)) (pk_sub (by omega)) ?_
                  refine sM_many (x := ((mn i) - 1)) C hP hD hS (by omega) dX2_net_145 (fun H locs hP hD hS => ?_)
                  refine lv_iconst (v := nI 1) hx hb dX2_net_146 (by decide) ?_
                  have hc : chM mn po an i g v = (true, va_up mn i (mn i - 1), va_up po (mfd mn po i g) (po (16 * i + mn i - 1)), va_up an (mfd mn po i g) (an (16 * i + mn i - 1))) := by
                    unfold chM
                    rw [if_neg n1, hs, if_neg n2]
                    exact if_pos ⟨by omega, c8⟩
                  have e1 : mW R o K va fl n th ch (chM mn po an i g v).2.1 (chM mn po an i g v).2.2.1 (chM mn po an i g v).2.2.2 = mW R o K va fl n th ch (va_up mn i ((mn i) - 1)) (va_up po (mfd mn po i g) (po (((16 * i) + (mn i)) - 1))) (va_up an (mfd mn po i g) (an (((16 * i) + (mn i)) - 1))) := by rw [hc]
                  rw [← e1] at hP hD
                  exact W.zret (v := nI 1) hx hb hr (by decide) (fun t ht _ => ⟨⟨_, (), rfl, b1 (by rw [hc]), by rw [ht]; exact hP, hD⟩, hS.F ht⟩) hS.2.2 dX2_net_147
            · have c6 : ¬ (-1000000000000000) ≤ z := fun z9 => c6 ((lg_cmp_ge z (-1000000000000000)).mpr z9)
              refine lv_iconst (v := nI 0) hx hb dX2_net_63 (by decide) ?_
              have hc : chM mn po an i g v = (false, mn, po, an) := by
                unfold chM
                rw [if_neg n1, hs]
                exact if_pos (Or.inr (i64_nle c6))
              have e1 : mW R o K va fl n th ch (chM mn po an i g v).2.1 (chM mn po an i g v).2.2.1 (chM mn po an i g v).2.2.2 = mW R o K va fl n th ch mn po an := by rw [hc]
              rw [← e1] at hP hD
              exact W.zret (v := nI 0) hx hb hr (by decide) (fun t ht _ => ⟨⟨_, (), rfl, b0 (by rw [hc]), by rw [ht]; exact hP, hD⟩, hS.F ht⟩) hS.2.2 dX2_net_64
        · have c4 : ¬ (-2000000000000000) ≤ v := fun z9 => c4 ((lg_cmp_ge v (-2000000000000000)).mpr z9)
          refine lv_iconst (v := nI 0) hx hb dX2_net_33 (by decide) ?_
          have hc : chM mn po an i g v = (false, mn, po, an) := by
            unfold chM
            exact if_pos (Or.inr (i64_nle c4))
          have e1 : mW R o K va fl n th ch (chM mn po an i g v).2.1 (chM mn po an i g v).2.2.1 (chM mn po an i g v).2.2.2 = mW R o K va fl n th ch mn po an := by rw [hc]
          rw [← e1] at hP hD
          exact W.zret (v := nI 0) hx hb hr (by decide) (fun t ht _ => ⟨⟨_, (), rfl, b0 (by rw [hc]), by rw [ht]; exact hP, hD⟩, hS.F ht⟩) hS.2.2 dX2_net_34
    · have c2 : (isP (nI g)) = false := (bI_z (isP (nI g))).mp c2
      exact absurd ((isP_nI hg).symm.trans c2) (by decide)
end MM2
