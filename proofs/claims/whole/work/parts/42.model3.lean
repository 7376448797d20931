/-! THE REFERENCE: solve, perform -/
section MM3
variable {D : va_G} {K : Nat → ClassId} {H : Heap} {A : Nat → Prop} {R : va_W} {o : Nat → Nat} {va fl an : Nat → Int64} {n : Nat} {th ch : Nat → Bool} {mn po : Nat → Nat}
set_option maxHeartbeats 1000000 in
set_option maxRecDepth 100000 in
theorem cM_solve (l : Launch) (hP : va_P D vwCl (mW R o K va fl n th ch mn po an) H) (hD : va_D A (mW R o K va fl n th ch mn po an)) (hok : cl_ok mn (psM po) (amM an) va fl n) (hth : ∀ i, n ≤ i → th i = false) (hch : ∀ i, n ≤ i → ch i = false) : Met l yX2_solve (tC yX2_solve cX2_solve 3 (some .int)) (rmK 4 0 0) (kP D K H [.ref (o 0)]) (qI D A (fun (r : Int32) (u : (Nat → Bool)) => r = nI (cn u 200) ∧ ms_inv mn po an va fl n th u ∧ gd_good n th (nvS mn (psM po) (amM an)) (iV va) (iV fl) u) (fun u : (Nat → Bool) => mW R o K va fl n th u mn po an)) 0 0 A := by
  refine Met.ofW (cc := cX2_solve) (maxL := 3) (ret := (some .int)) (by decide) rfl ?_
  intro p e s m args below meth c s₁ B hml hv
  obtain ⟨rfl, hH, hK, hN, hO⟩ := hv
  have hx := B.exec
  have hb := B.bytes
  have hr := B.returns
  have hts : ∀ w ∈ tT, w.before _ s = true := fun w h => atoms_spec (ws := tC yX2_solve cX2_solve 3 (some .int)) B.pre w (List.mem_cons_of_mem _ h)
  have hown : s.vm.findClass RX2 = some m.cls := findClass_of_methodNamed B.named
  have hlocks := B.notSynchronized
  have C : cx RX2 D K p s m _ c cX2_solve := ⟨hx, hb, hown, hts, hK, hN, hO⟩
  have hR : rmOk (headSpec (tC yX2_solve cX2_solve 3 (some .int)) (rmK 4 0 0)).room 4 0 0 := ⟨Nat.le_refl _, Nat.le_refl _, Nat.le_refl _, Nat.le_refl _⟩
  subst hH
  have hS : va_S A s.heap s.heap [] := va_S.rf
  have hl := lv_entry ([.ref (o 0)]) (n := 3) (Nat.le_of_ble_eq_true rfl)
  rw [lg_entry_eq]
  generalize (lg_sl ([.ref (o 0)]) ++ List.replicate (3 - (lg_sl ([.ref (o 0)])).length) Slot.unset).toArray = ls at hl ⊢
  have hl : lv_has ls 3 [(0, .ref (o 0))] := hl
  have hn200 : n ≤ 200 := hok.1
  refine lv_iconst (v := nI 0) hx hb dX2_solve_0 (by decide) ?_
  refine lv_istore_n (lv' := [(1, .int (nI 0)), (0, .ref (o 0))]) hx hb dX2_solve_1 rfl hl (by decide) rfl (fun ls hl => ?_)
  refine lpM (U := 200) (pcH := 2) (I := fun k ls H locs => lv_has ls 3 [(1, .int (nI k)), (0, .ref (o 0))] ∧ va_P D vwCl (mW R o K va fl n th (st_s th ch k) mn po an) H ∧ va_D A (mW R o K va fl n th (st_s th ch k) mn po an) ∧ va_S A s.heap H locs) (fun k ls H locs hkk hI ihk => ?_) 0 ls _ _ (Nat.zero_le _) ⟨(lv_sub hl [0, 1] rfl), hP, hD, hS⟩
  obtain ⟨hl, hP, hD, hS⟩ := hI
  refine lv_iload_n hx hb dX2_solve_2 rfl (lv_at hl 0 rfl) ?_
  refine lv_sipush (v := nI 200) hx hb dX2_solve_3 (by decide) ?_
  refine lv_icmp_ge (tgt := 27) hx hb dX2_solve_6 (by decide) (fun c0 => ?_) (fun c0 => ?_)
  · have c0 : 200 ≤ k := (nI_leI (by omega) (by omega)).mp c0
    rw [show k = 200 by omega] at hP hD
    refine lv_iconst (v := nI 1) hx hb dX2_solve_27 (by decide) ?_
    refine tp_i (y := bI true) (b1 rfl) ?_
    refine lv_istore_n (lv' := [(1, .int (bI true)), (0, .ref (o 0))]) hx hb dX2_solve_28 rfl hl (by decide) rfl (fun ls hl => ?_)
    refine lpQ (α := CB) (pcH := 29) (I := fun σ ls H locs => lv_has ls 3 [(1, .int (bI σ.2)), (0, .ref (o 0))] ∧ va_P D vwCl (mW R o K va fl n th σ.1 mn po an) H ∧ va_D A (mW R o K va fl n th σ.1 mn po an) ∧ va_S A s.heap H locs ∧ ms_inv mn po an va fl n th σ.1 ∧ (σ.2 = false → gd_good n th (nvS mn (psM po) (amM an)) (iV va) (iV fl) σ.1)) (fun σ : CB => if σ.2 = true then cn σ.1 n + 1 else 0) (fun σ ls H locs hI ihq => ?_) (st_s th ch 200, true) ls _ _ ⟨(lv_sub hl [0, 1] rfl), hP, hD, hS, ms_start hok.1 hth hch, fun z => (by cases z)⟩
    obtain ⟨hl, hP, hD, hS, hmi, hgd⟩ := hI
    refine lv_iload_n hx hb dX2_solve_29 rfl (lv_at hl 0 rfl) ?_
    refine lv_if_eq (tgt := 123) hx hb dX2_solve_30 (by decide) (fun c1 => ?_) (fun c1 => ?_)
    · have c1 : σ.2 = false := (bI_z σ.2).mp c1
      refine lv_aload_n hx hb dX2_solve_123 rfl (lv_at hl 1 rfl) ?_
      refine lv_iconst (v := nI 2) hx hb dX2_solve_124 (by decide) ?_
      refine pv (va_runV (As := [.int (nI 2)]) (rest := []) ⟨hx, hb, hml, hown, hts⟩ (cM_count l hP (nI 2)) (cwV 1 hts gM_83 rfl rfl rfl (by decide +kernel) (rmF hR (by decide) (by decide))) (kP_V C (va_recv C.2.2.2.2.1 hP (ci := ciM) (q0 := 0) rfl rfl)) rfl rfl hl.1 rfl (lv_room (Nat.le_of_ble_eq_true rfl)) dX2_solve_125 ⟨hR.2.2.1, hR.2.2.2⟩) ?_
      refine tp_i (y := nI (cn σ.1 200)) (by unfold cntS; rw [if_neg (by decide), if_neg (by decide), if_pos rfl]) ?_
      exact W.iret (v := nI (cn σ.1 200)) hx hb hr (fun t ht _ => ⟨⟨_, σ.1, rfl, ⟨rfl, hmi, hgd c1⟩, by rw [ht]; exact hP, hD⟩, hS.F ht⟩) hS.2.2 dX2_solve_128
    · have c1 : σ.2 = true := (bI_nz σ.2).mp c1
      refine lv_iconst (v := nI 0) hx hb dX2_solve_33 (by decide) ?_
      refine tp_i (y := bI (m_p1 mn po an va fl n σ.1 0).2) (b0 rfl) ?_
      refine lv_istore_n (lv' := [(1, .int (bI (m_p1 mn po an va fl n σ.1 0).2)), (0, .ref (o 0))]) hx hb dX2_solve_34 rfl hl (by decide) rfl (fun ls hl => ?_)
      refine lv_iconst (v := nI 0) hx hb dX2_solve_35 (by decide) ?_
      refine lv_istore_n (lv' := [(2, .int (nI 0)), (1, .int (bI (m_p1 mn po an va fl n σ.1 0).2)), (0, .ref (o 0))]) hx hb dX2_solve_36 rfl hl (by decide) rfl (fun ls hl => ?_)
      refine lpM (U := 300) (pcH := 37) (I := fun g ls H locs => lv_has ls 3 [(2, .int (nI g)), (1, .int (bI (m_p1 mn po an va fl n σ.1 g).2)), (0, .ref (o 0))] ∧ va_P D vwCl (mW R o K va fl n th ((m_p1 mn po an va fl n σ.1 g).1) mn po an) H ∧ va_D A (mW R o K va fl n th ((m_p1 mn po an va fl n σ.1 g).1) mn po an) ∧ va_S A s.heap H locs) (fun g ls H locs hkg hI ihg => ?_) 0 ls _ _ (Nat.zero_le _) ⟨(lv_sub hl [0, 1, 2] rfl), hP, hD, hS⟩
      obtain ⟨hl, hP, hD, hS⟩ := hI
      refine lv_iload_n hx hb dX2_solve_37 rfl (lv_at hl 0 rfl) ?_
      refine lv_sipush (v := nI 300) hx hb dX2_solve_38 (by decide) ?_
      refine lv_icmp_ge (tgt := 78) hx hb dX2_solve_41 (by decide) (fun c2 => ?_) (fun c2 => ?_)
      · have c2 : 300 ≤ g := (nI_leI (by omega) (by omega)).mp c2
        rw [show g = 300 by omega] at hP hD hl
        refine lv_iconst (v := nI 0) hx hb dX2_solve_78 (by decide) ?_
        refine lv_istore_n (lv' := [(2, .int (nI 0)), (1, .int (bI (m_p1 mn po an va fl n σ.1 300).2)), (0, .ref (o 0))]) hx hb dX2_solve_79 rfl hl (by decide) rfl (fun ls hl => ?_)
        refine lpM (U := n) (pcH := 80) (I := fun i ls H locs => lv_has ls 3 [(2, .int (nI i)), (1, .int (bI (m_p2 mn po an th (m_p1 mn po an va fl n σ.1 300) i).2)), (0, .ref (o 0))] ∧ va_P D vwCl (mW R o K va fl n th ((m_p2 mn po an th (m_p1 mn po an va fl n σ.1 300) i).1) mn po an) H ∧ va_D A (mW R o K va fl n th ((m_p2 mn po an th (m_p1 mn po an va fl n σ.1 300) i).1) mn po an) ∧ va_S A s.heap H locs) (fun i ls H locs hki hI ihi => ?_) 0 ls _ _ (Nat.zero_le _) ⟨(lv_sub hl [0, 1, 2] rfl), hP, hD, hS⟩
        obtain ⟨hl, hP, hD, hS⟩ := hI
        refine lv_iload_n hx hb dX2_solve_80 rfl (lv_at hl 0 rfl) ?_
        refine lv_aload_n hx hb dX2_solve_81 rfl (lv_at hl 2 rfl) ?_
        refine gM_items C hP dX2_solve_82 ?_
        refine lv_icmp_ge (tgt := 120) hx hb dX2_solve_85 (by decide) (fun c4 => ?_) (fun c4 => ?_)
        · have c4 : n ≤ i := (nI_leI (by omega) (by omega)).mp c4
          rw [show i = n by omega] at hP hD hl
          refine lv_goto (tgt := 29) hx hb dX2_solve_120 (by decide) ?_
          have hv : ms_inv mn po an va fl n th (m_p2 mn po an th (m_p1 mn po an va fl n σ.1 300) n).1 ∧ ((m_p2 mn po an th (m_p1 mn po an va fl n σ.1 300) n).2 = false → gd_good n th (nvS mn (psM po) (amM an)) (iV va) (iV fl) (m_p2 mn po an th (m_p1 mn po an va fl n σ.1 300) n).1) ∧ ((m_p2 mn po an th (m_p1 mn po an va fl n σ.1 300) n).2 = true → cn (m_p2 mn po an th (m_p1 mn po an va fl n σ.1 300) n).1 n < cn σ.1 n) := m_it_v hok hmi
          refine ihq (m_p2 mn po an th (m_p1 mn po an va fl n σ.1 300) n) ls _ _ ?_ ⟨(lv_sub hl [1, 2] rfl), hP, hD, hS, hv.1, hv.2.1⟩
          show (if (m_p2 mn po an th (m_p1 mn po an va fl n σ.1 300) n).2 = true then cn (m_p2 mn po an th (m_p1 mn po an va fl n σ.1 300) n).1 n + 1 else 0) < (if σ.2 = true then cn σ.1 n + 1 else 0)
          rw [if_pos c1]
          by_cases hz : (m_p2 mn po an th (m_p1 mn po an va fl n σ.1 300) n).2 = true
          · rw [if_pos hz]
            have hq9 := hv.2.2 hz
            omega
          · rw [if_neg hz]
            omega
        · have c4 : ¬ n ≤ i := fun z9 => c4 ((nI_leI (by omega) (by omega)).mpr z9)
          refine lv_aload_n hx hb dX2_solve_88 rfl (lv_at hl 2 rfl) ?_
          refine gM_chosen C hP dX2_solve_89 ?_
          refine lv_iload_n hx hb dX2_solve_92 rfl (lv_at hl 0 rfl) ?_
          refine lM_chosen C hP (by omega) dX2_solve_93 ?_
          refine lv_if_eq (tgt := 114) hx hb dX2_solve_94 (by decide) (fun c5 => ?_) (fun c5 => ?_)
          · have c5 : ((m_p2 mn po an th (m_p1 mn po an va fl n σ.1 300) i).1 i) = false := (bI_z ((m_p2 mn po an th (m_p1 mn po an va fl n σ.1 300) i).1 i)).mp c5
            have hd : (m_p2 mn po an th (m_p1 mn po an va fl n σ.1 300) (i + 1)) = (m_p2 mn po an th (m_p1 mn po an va fl n σ.1 300) i) := if_neg (fun y => absurd (c5.symm.trans y.1) (by decide))
            refine lv_iinc (v := nI (i + 1)) (lv' := [(2, .int (nI (i + 1))), (1, .int (bI (m_p2 mn po an th (m_p1 mn po an va fl n σ.1 300) i).2)), (0, .ref (o 0))]) hx hb dX2_solve_114 hl (k := 0) rfl (nI_1 i) (by decide) rfl (fun ls hl => ?_)
            refine lv_goto (tgt := 80) hx hb dX2_solve_117 (by decide) ?_
            have e_ch : (m_p2 mn po an th (m_p1 mn po an va fl n σ.1 300) (i + 1)).1 = (m_p2 mn po an th (m_p1 mn po an va fl n σ.1 300) i).1 := by rw [hd]
            rw [← e_ch] at hP hD
            exact ihi (by omega) ls _ _ ⟨(by rw [hd]; exact (lv_sub hl [0, 1, 2] rfl)), hP, hD, hS⟩
          · have c5 : ((m_p2 mn po an th (m_p1 mn po an va fl n σ.1 300) i).1 i) = true := (bI_nz ((m_p2 mn po an th (m_p1 mn po an va fl n σ.1 300) i).1 i)).mp c5
            refine lv_aload_n hx hb dX2_solve_97 rfl (lv_at hl 2 rfl) ?_
            refine lv_iload_n hx hb dX2_solve_98 rfl (lv_at hl 0 rfl) ?_
            refine pv (va_runV (As := [.int (nI i)]) (rest := []) ⟨hx, hb, hml, hown, hts⟩ (cM_lacks l hP hok (show i < n by omega)) (cwV 1 hts gM_80 rfl rfl rfl (by decide +kernel) (rmF hR (by decide) (by decide))) (kP_V C (va_recv C.2.2.2.2.1 hP (ci := ciM) (q0 := 0) rfl rfl)) rfl rfl hl.1 rfl (lv_room (Nat.le_of_ble_eq_true rfl)) dX2_solve_99 ⟨hR.2.2.1, hR.2.2.2⟩) ?_
            refine lv_if_eq (tgt := 114) hx hb dX2_solve_102 (by decide) (fun c6 => ?_) (fun c6 => ?_)
            · have c6 : (m_lack mn po an th (m_p2 mn po an th (m_p1 mn po an va fl n σ.1 300) i).1 i i) = false := (bI_z (m_lack mn po an th (m_p2 mn po an th (m_p1 mn po an va fl n σ.1 300) i).1 i i)).mp c6
              have hd : (m_p2 mn po an th (m_p1 mn po an va fl n σ.1 300) (i + 1)) = (m_p2 mn po an th (m_p1 mn po an va fl n σ.1 300) i) := if_neg (fun y => absurd (c6.symm.trans y.2) (by decide))
              refine lv_iinc (v := nI (i + 1)) (lv' := [(2, .int (nI (i + 1))), (1, .int (bI (m_p2 mn po an th (m_p1 mn po an va fl n σ.1 300) i).2)), (0, .ref (o 0))]) hx hb dX2_solve_114 hl (k := 0) rfl (nI_1 i) (by decide) rfl (fun ls hl => ?_)
              refine lv_goto (tgt := 80) hx hb dX2_solve_117 (by decide) ?_
              have e_ch : (m_p2 mn po an th (m_p1 mn po an va fl n σ.1 300) (i + 1)).1 = (m_p2 mn po an th (m_p1 mn po an va fl n σ.1 300) i).1 := by rw [hd]
              rw [← e_ch] at hP hD
              exact ihi (by omega) ls _ _ ⟨(by rw [hd]; exact (lv_sub hl [0, 1, 2] rfl)), hP, hD, hS⟩
            · have c6 : (m_lack mn po an th (m_p2 mn po an th (m_p1 mn po an va fl n σ.1 300) i).1 i i) = true := (bI_nz (m_lack mn po an th (m_p2 mn po an th (m_p1 mn po an va fl n σ.1 300) i).1 i i)).mp c6
              refine lv_aload_n hx hb dX2_solve_105 rfl (lv_at hl 2 rfl) ?_
              refine gM_chosen C hP dX2_solve_106 ?_
              refine lv_iload_n hx hb dX2_solve_109 rfl (lv_at hl 0 rfl) ?_
              refine lv_iconst (v := nI 0) hx hb dX2_solve_110 (by decide) ?_
              refine tp_i (y := bI false) (b0 rfl) ?_
              refine sM_chosen (x := false) C hP hD hS (by omega) dX2_solve_111 (fun H locs hP hD hS => ?_)
              refine lv_iconst (v := nI 1) hx hb dX2_solve_112 (by decide) ?_
              refine tp_i (y := bI true) (b1 rfl) ?_
              refine lv_istore_n (lv' := [(1, .int (bI true)), (2, .int (nI i)), (0, .ref (o 0))]) hx hb dX2_solve_113 rfl hl (by decide) rfl (fun ls hl => ?_)
              refine lv_iinc (v := nI (i + 1)) (lv' := [(2, .int (nI (i + 1))), (1, .int (bI true)), (0, .ref (o 0))]) hx hb dX2_solve_114 hl (k := 1) rfl (nI_1 i) (by decide) rfl (fun ls hl => ?_)
              refine lv_goto (tgt := 80) hx hb dX2_solve_117 (by decide) ?_
              have hd : (m_p2 mn po an th (m_p1 mn po an va fl n σ.1 300) (i + 1)) = (va_up (m_p2 mn po an th (m_p1 mn po an va fl n σ.1 300) i).1 i false, true) := if_pos ⟨c5, c6⟩
              have e_ch : (m_p2 mn po an th (m_p1 mn po an va fl n σ.1 300) (i + 1)).1 = (va_up (m_p2 mn po an th (m_p1 mn po an va fl n σ.1 300) i).1 i false) := by rw [hd]
              rw [← e_ch] at hP hD
              exact ihi (by omega) ls _ _ ⟨(by rw [hd]; exact (lv_sub hl [0, 1, 2] rfl)), hP, hD, hS⟩
      · have c2 : ¬ 300 ≤ g := fun z9 => c2 ((nI_leI (by omega) (by omega)).mpr z9)
        refine lv_aload_n hx hb dX2_solve_44 rfl (lv_at hl 2 rfl) ?_
        refine lv_iload_n hx hb dX2_solve_45 rfl (lv_at hl 0 rfl) ?_
        refine pv (va_runV (As := [.int (nI g)]) (rest := []) ⟨hx, hb, hml, hown, hts⟩ (cM_total l hP hok (show g < 300 by omega)) (cwV 1 hts gM_72 rfl rfl rfl (by decide +kernel) (rmF hR (by decide) (by decide))) (kP_V C (va_recv C.2.2.2.2.1 hP (ci := ciM) (q0 := 0) rfl rfl)) rfl rfl hl.1 rfl (lv_room (Nat.le_of_ble_eq_true rfl)) dX2_solve_46 ⟨hR.2.2.1, hR.2.2.2⟩) ?_
        refine lv_aload_n hx hb dX2_solve_49 rfl (lv_at hl 2 rfl) ?_
        refine gM_floors C hP dX2_solve_50 ?_
        refine lv_iload_n hx hb dX2_solve_53 rfl (lv_at hl 0 rfl) ?_
        refine lM_floors C hP (by omega) dX2_solve_54 ?_
        refine W.lcmp hx hb dX2_solve_55 ?_
        refine lv_if_ge (tgt := 72) hx hb dX2_solve_56 (by decide) (fun c3 => ?_) (fun c3 => ?_)
        · have c3 : (fl g) ≤ (m_tot mn po an va (m_p1 mn po an va fl n σ.1 g).1 g n) := (lg_cmp_ge (m_tot mn po an va (m_p1 mn po an va fl n σ.1 g).1 g n) (fl g)).mp c3
          have hd : (m_p1 mn po an va fl n σ.1 (g + 1)) = (m_p1 mn po an va fl n σ.1 g) := if_neg (i64_le_nlt c3)
          refine lv_iinc (v := nI (g + 1)) (lv' := [(2, .int (nI (g + 1))), (1, .int (bI (m_p1 mn po an va fl n σ.1 g).2)), (0, .ref (o 0))]) hx hb dX2_solve_72 hl (k := 0) rfl (nI_1 g) (by decide) rfl (fun ls hl => ?_)
          refine lv_goto (tgt := 37) hx hb dX2_solve_75 (by decide) ?_
          have e_ch : (m_p1 mn po an va fl n σ.1 (g + 1)).1 = (m_p1 mn po an va fl n σ.1 g).1 := by rw [hd]
          rw [← e_ch] at hP hD
          exact ihg (by omega) ls _ _ ⟨(by rw [hd]; exact (lv_sub hl [0, 1, 2] rfl)), hP, hD, hS⟩
        · have c3 : ¬ (fl g) ≤ (m_tot mn po an va (m_p1 mn po an va fl n σ.1 g).1 g n) := fun z9 => c3 ((lg_cmp_ge (m_tot mn po an va (m_p1 mn po an va fl n σ.1 g).1 g n) (fl g)).mpr z9)
          have hlow := i64_nle c3
          obtain ⟨t, ht, -, -, et, -⟩ := m_last_in hok (m_p1 mn po an va fl n σ.1 g).1 (show g < 300 by omega) hlow
          refine lv_aload_n hx hb dX2_solve_59 rfl (lv_at hl 2 rfl) ?_
          refine gM_chosen C hP dX2_solve_60 ?_
          refine lv_aload_n hx hb dX2_solve_63 rfl (lv_at hl 2 rfl) ?_
          refine lv_iload_n hx hb dX2_solve_64 rfl (lv_at hl 0 rfl) ?_
          refine pv (va_runV (As := [.int (nI g)]) (rest := [.ref (o 4)]) ⟨hx, hb, hml, hown, hts⟩ (cM_lastTaker l hP hok (show g < 300 by omega)) (cwV 1 hts gM_76 rfl rfl rfl (by decide +kernel) (rmF hR (by decide) (by decide))) (kP_V C (va_recv C.2.2.2.2.1 hP (ci := ciM) (q0 := 0) rfl rfl)) rfl rfl hl.1 rfl (lv_room (Nat.le_of_ble_eq_true rfl)) dX2_solve_65 ⟨hR.2.2.1, hR.2.2.2⟩) ?_
          refine tp_i (y := nI t) (et) ?_
          refine lv_iconst (v := nI 0) hx hb dX2_solve_68 (by decide) ?_
          refine tp_i (y := bI false) (b0 rfl) ?_
          refine sM_chosen (x := false) C hP hD hS (by omega) dX2_solve_69 (fun H locs hP hD hS => ?_)
          refine lv_iconst (v := nI 1) hx hb dX2_solve_70 (by decide) ?_
          refine tp_i (y := bI true) (b1 rfl) ?_
          refine lv_istore_n (lv' := [(1, .int (bI true)), (2, .int (nI g)), (0, .ref (o 0))]) hx hb dX2_solve_71 rfl hl (by decide) rfl (fun ls hl => ?_)
          refine lv_iinc (v := nI (g + 1)) (lv' := [(2, .int (nI (g + 1))), (1, .int (bI true)), (0, .ref (o 0))]) hx hb dX2_solve_72 hl (k := 1) rfl (nI_1 g) (by decide) rfl (fun ls hl => ?_)
          refine lv_goto (tgt := 37) hx hb dX2_solve_75 (by decide) ?_
          have hd : (m_p1 mn po an va fl n σ.1 (g + 1)) = (va_up (m_p1 mn po an va fl n σ.1 g).1 t false, true) := (if_pos hlow).trans (by rw [et, nI_clamp (by omega)])
          have e_ch : (m_p1 mn po an va fl n σ.1 (g + 1)).1 = (va_up (m_p1 mn po an va fl n σ.1 g).1 t false) := by rw [hd]
          rw [← e_ch] at hP hD
          exact ihg (by omega) ls _ _ ⟨(by rw [hd]; exact (lv_sub hl [0, 1, 2] rfl)), hP, hD, hS⟩
  · have c0 : ¬ 200 ≤ k := fun z9 => c0 ((nI_leI (by omega) (by omega)).mpr z9)
    refine lv_aload_n hx hb dX2_solve_9 rfl (lv_at hl 1 rfl) ?_
    refine gM_chosen C hP dX2_solve_10 ?_
    refine lv_iload_n hx hb dX2_solve_13 rfl (lv_at hl 0 rfl) ?_
    refine lv_aload_n hx hb dX2_solve_14 rfl (lv_at hl 1 rfl) ?_
    refine gM_there C hP dX2_solve_15 ?_
    refine lv_iload_n hx hb dX2_solve_18 rfl (lv_at hl 0 rfl) ?_
    refine lM_there C hP (by omega) dX2_solve_19 ?_
    refine sM_chosen (x := (th k)) C hP hD hS (by omega) dX2_solve_20 (fun H locs hP hD hS => ?_)
    refine lv_iinc (v := nI (k + 1)) (lv' := [(1, .int (nI (k + 1))), (0, .ref (o 0))]) hx hb dX2_solve_21 hl (k := 0) rfl (nI_1 k) (by decide) rfl (fun ls hl => ?_)
    refine lv_goto (tgt := 2) hx hb dX2_solve_24 (by decide) ?_
    have e_ch : (st_s th ch (k + 1)) = (va_up (st_s th ch k) k (th k)) := rfl
    rw [← e_ch] at hP hD
    exact ihk (by omega) ls _ _ ⟨(lv_sub hl [0, 1] rfl), hP, hD, hS⟩
set_option maxHeartbeats 1000000 in
set_option maxRecDepth 100000 in
theorem cM_perform (l : Launch) (hP : va_P D vwCl (mW R o K va fl n th ch mn po an) H) (hD : va_D A (mW R o K va fl n th ch mn po an)) (hok : cl_ok mn (psM po) (amM an) va fl n) (hth : ∀ i, n ≤ i → th i = false) (hch : ∀ i, n ≤ i → ch i = false) : Met l yX2_perform (tC yX2_perform cX2_perform 3 (some .int)) (rmK 5 0 0) (kP D K H [.ref (o 0)]) (qI D A (fun (r : Int32) (u : ((Nat → Bool) × (Nat → Int64) × (Nat → Bool))) => ms_inv mn po an va fl n th u.1 ∧ gd_good n th (nvS mn (psM po) (amM an)) (iV va) (iV fl) u.1 ∧ (((∃ g, g < 300 ∧ 1000000000000000000 < m_tot mn po an va u.1 g n) ∧ r = (-1) ∧ u.2.1 = va ∧ u.2.2 = th) ∨ ((∀ g, g < 300 → ¬ 1000000000000000000 < m_tot mn po an va u.1 g n) ∧ r = nI (cn u.1 200) ∧ u.2.1 = m_pv mn po an u.1 n va 300 ∧ u.2.2 = m_nt u.1 th n))) (fun u : ((Nat → Bool) × (Nat → Int64) × (Nat → Bool)) => mW R o K u.2.1 fl n u.2.2 u.1 mn po an)) 0 0 A := by
  refine Met.ofW (cc := cX2_perform) (maxL := 3) (ret := (some .int)) (by decide) rfl ?_
  intro p e s m args below meth c s₁ B hml hv
  obtain ⟨rfl, hH, hK, hN, hO⟩ := hv
  have hx := B.exec
  have hb := B.bytes
  have hr := B.returns
  have hts : ∀ w ∈ tT, w.before _ s = true := fun w h => atoms_spec (ws := tC yX2_perform cX2_perform 3 (some .int)) B.pre w (List.mem_cons_of_mem _ h)
  have hown : s.vm.findClass RX2 = some m.cls := findClass_of_methodNamed B.named
  have hlocks := B.notSynchronized
  have C : cx RX2 D K p s m _ c cX2_perform := ⟨hx, hb, hown, hts, hK, hN, hO⟩
  have hR : rmOk (headSpec (tC yX2_perform cX2_perform 3 (some .int)) (rmK 5 0 0)).room 5 0 0 := ⟨Nat.le_refl _, Nat.le_refl _, Nat.le_refl _, Nat.le_refl _⟩
  subst hH
  have hS : va_S A s.heap s.heap [] := va_S.rf
  have hl := lv_entry ([.ref (o 0)]) (n := 3) (Nat.le_of_ble_eq_true rfl)
  rw [lg_entry_eq]
  generalize (lg_sl ([.ref (o 0)]) ++ List.replicate (3 - (lg_sl ([.ref (o 0)])).length) Slot.unset).toArray = ls at hl ⊢
  have hl : lv_has ls 3 [(0, .ref (o 0))] := hl
  have hn200 : n ≤ 200 := hok.1
  refine lv_aload_n hx hb dX2_perform_0 rfl (lv_at hl 0 rfl) ?_
  refine wi (va_runV (As := []) (rest := []) ⟨hx, hb, hml, hown, hts⟩ (cM_solve l hP hD hok hth hch) (cwV 0 hts gM_86 rfl rfl rfl (by decide +kernel) (rmF hR (by decide) (by decide))) (kP_V C (va_recv C.2.2.2.2.1 hP (ci := ciM) (q0 := 0) rfl rfl)) rfl rfl hl.1 rfl (lv_room (Nat.le_of_ble_eq_true rfl)) dX2_perform_1 ⟨hR.2.2.1, hR.2.2.2⟩) hS (fun r u H locs hq hP hD hS => ?_)
  obtain ⟨rfl, hms, hgd⟩ := hq
  refine lv_istore_n (lv' := [(1, .int (nI (cn u 200))), (0, .ref (o 0))]) hx hb dX2_perform_4 rfl hl (by decide) rfl (fun ls hl => ?_)
  refine lv_iconst (v := nI 0) hx hb dX2_perform_5 (by decide) ?_
  refine lv_istore_n (lv' := [(2, .int (nI 0)), (1, .int (nI (cn u 200))), (0, .ref (o 0))]) hx hb dX2_perform_6 rfl hl (by decide) rfl (fun ls hl => ?_)
  refine lpW (U := 300) (pcH := 7) (I := fun g ls => lv_has ls 3 [(2, .int (nI g)), (1, .int (nI (cn u 200))), (0, .ref (o 0))] ∧ ∀ j, j < g → ¬ 1000000000000000000 < m_tot mn po an va u j n) (fun g ls hkg hI ihg => ?_) 0 ls (Nat.zero_le _) ⟨(lv_sub hl [0, 1, 2] rfl), fun j hj => absurd hj (Nat.not_lt_zero j)⟩
  obtain ⟨hl, hm⟩ := hI
  refine lv_iload_n hx hb dX2_perform_7 rfl (lv_at hl 0 rfl) ?_
  refine lv_sipush (v := nI 300) hx hb dX2_perform_8 (by decide) ?_
  refine lv_icmp_ge (tgt := 34) hx hb dX2_perform_11 (by decide) (fun c1 => ?_) (fun c1 => ?_)
  · have c1 : 300 ≤ g := (nI_leI (by omega) (by omega)).mp c1
    have hall : ∀ j, j < 300 → ¬ 1000000000000000000 < m_tot mn po an va u j n := fun j hj => hm j (by omega)
    refine lv_iconst (v := nI 0) hx hb dX2_perform_34 (by decide) ?_
    refine lv_istore_n (lv' := [(2, .int (nI 0)), (1, .int (nI (cn u 200))), (0, .ref (o 0))]) hx hb dX2_perform_35 rfl hl (by decide) rfl (fun ls hl => ?_)
    refine lpM (U := 300) (pcH := 36) (I := fun k ls H locs => lv_has ls 3 [(2, .int (nI k)), (1, .int (nI (cn u 200))), (0, .ref (o 0))] ∧ va_P D vwCl (mW R o K (m_pv mn po an u n va k) fl n th u mn po an) H ∧ va_D A (mW R o K (m_pv mn po an u n va k) fl n th u mn po an) ∧ va_S A s.heap H locs) (fun k ls H locs hkk hI ihk => ?_) 0 ls _ _ (Nat.zero_le _) ⟨(lv_sub hl [0, 1, 2] rfl), hP, hD, hS⟩
    obtain ⟨hl, hP, hD, hS⟩ := hI
    refine lv_iload_n hx hb dX2_perform_36 rfl (lv_at hl 0 rfl) ?_
    refine lv_sipush (v := nI 300) hx hb dX2_perform_37 (by decide) ?_
    refine lv_icmp_ge (tgt := 60) hx hb dX2_perform_40 (by decide) (fun c3 => ?_) (fun c3 => ?_)
    · have c3 : 300 ≤ k := (nI_leI (by omega) (by omega)).mp c3
      rw [show k = 300 by omega] at hP hD
      refine lv_iconst (v := nI 0) hx hb dX2_perform_60 (by decide) ?_
      refine lv_istore_n (lv' := [(2, .int (nI 0)), (1, .int (nI (cn u 200))), (0, .ref (o 0))]) hx hb dX2_perform_61 rfl hl (by decide) rfl (fun ls hl => ?_)
      refine lpM (U := n) (pcH := 62) (I := fun i ls H locs => lv_has ls 3 [(2, .int (nI i)), (1, .int (nI (cn u 200))), (0, .ref (o 0))] ∧ va_P D vwCl (mW R o K (m_pv mn po an u n va 300) fl n (m_nt u th i) u mn po an) H ∧ va_D A (mW R o K (m_pv mn po an u n va 300) fl n (m_nt u th i) u mn po an) ∧ va_S A s.heap H locs) (fun i ls H locs hki hI ihi => ?_) 0 ls _ _ (Nat.zero_le _) ⟨(lv_sub hl [0, 1, 2] rfl), hP, hD, hS⟩
      obtain ⟨hl, hP, hD, hS⟩ := hI
      refine lv_iload_n hx hb dX2_perform_62 rfl (lv_at hl 0 rfl) ?_
      refine lv_aload_n hx hb dX2_perform_63 rfl (lv_at hl 2 rfl) ?_
      refine gM_items C hP dX2_perform_64 ?_
      refine lv_icmp_ge (tgt := 105) hx hb dX2_perform_67 (by decide) (fun c4 => ?_) (fun c4 => ?_)
      · have c4 : n ≤ i := (nI_leI (by omega) (by omega)).mp c4
        rw [show i = n by omega] at hP hD
        refine lv_iload_n hx hb dX2_perform_105 rfl (lv_at hl 1 rfl) ?_
        exact W.iret (v := nI (cn u 200)) hx hb hr (fun t ht _ => ⟨⟨_, (u, m_pv mn po an u n va 300, m_nt u th n), rfl, ⟨hms, hgd, Or.inr ⟨hall, rfl, rfl, rfl⟩⟩, by rw [ht]; exact hP, hD⟩, hS.F ht⟩) hS.2.2 dX2_perform_106
      · have c4 : ¬ n ≤ i := fun z9 => c4 ((nI_leI (by omega) (by omega)).mpr z9)
        refine lv_aload_n hx hb dX2_perform_70 rfl (lv_at hl 2 rfl) ?_
        refine gM_there C hP dX2_perform_71 ?_
        refine lv_iload_n hx hb dX2_perform_74 rfl (lv_at hl 0 rfl) ?_
        refine lv_aload_n hx hb dX2_perform_75 rfl (lv_at hl 2 rfl) ?_
        refine gM_there C hP dX2_perform_76 ?_
        refine lv_iload_n hx hb dX2_perform_79 rfl (lv_at hl 0 rfl) ?_
        refine lM_there C hP (by omega) dX2_perform_80 ?_
        refine lv_if_eq (tgt := 97) hx hb dX2_perform_81 (by decide) (fun c5 => ?_) (fun c5 => ?_)
        · have c5 : ((m_nt u th i) i) = false := (bI_z ((m_nt u th i) i)).mp c5
          refine lv_iconst (v := nI 0) hx hb dX2_perform_97 (by decide) ?_
          refine tp_i (y := bI (m_nt u th i i && !u i)) (b0 (by rw [c5]; rfl)) ?_
          refine sM_there (x := (m_nt u th i i && !u i)) C hP hD hS (by omega) dX2_perform_98 (fun H locs hP hD hS => ?_)
          refine lv_iinc (v := nI (i + 1)) (lv' := [(2, .int (nI (i + 1))), (1, .int (nI (cn u 200))), (0, .ref (o 0))]) hx hb dX2_perform_99 hl (k := 0) rfl (nI_1 i) (by decide) rfl (fun ls hl => ?_)
          refine lv_goto (tgt := 62) hx hb dX2_perform_102 (by decide) ?_
          have e_th : (m_nt u th (i + 1)) = (va_up (m_nt u th i) i (m_nt u th i i && !u i)) := rfl
          rw [← e_th] at hP hD
          exact ihi (by omega) ls _ _ ⟨(lv_sub hl [0, 1, 2] rfl), hP, hD, hS⟩
        · have c5 : ((m_nt u th i) i) = true := (bI_nz ((m_nt u th i) i)).mp c5
          refine lv_aload_n hx hb dX2_perform_84 rfl (lv_at hl 2 rfl) ?_
          refine gM_chosen C hP dX2_perform_85 ?_
          refine lv_iload_n hx hb dX2_perform_88 rfl (lv_at hl 0 rfl) ?_
          refine lM_chosen C hP (by omega) dX2_perform_89 ?_
          refine lv_if_ne (tgt := 97) hx hb dX2_perform_90 (by decide) (fun c6 => ?_) (fun c6 => ?_)
          · have c6 : (u i) = true := (bI_nz (u i)).mp c6
            refine lv_iconst (v := nI 0) hx hb dX2_perform_97 (by decide) ?_
            refine tp_i (y := bI (m_nt u th i i && !u i)) (b0 (by rw [c5, c6]; rfl)) ?_
            refine sM_there (x := (m_nt u th i i && !u i)) C hP hD hS (by omega) dX2_perform_98 (fun H locs hP hD hS => ?_)
            refine lv_iinc (v := nI (i + 1)) (lv' := [(2, .int (nI (i + 1))), (1, .int (nI (cn u 200))), (0, .ref (o 0))]) hx hb dX2_perform_99 hl (k := 0) rfl (nI_1 i) (by decide) rfl (fun ls hl => ?_)
            refine lv_goto (tgt := 62) hx hb dX2_perform_102 (by decide) ?_
            have e_th : (m_nt u th (i + 1)) = (va_up (m_nt u th i) i (m_nt u th i i && !u i)) := rfl
            rw [← e_th] at hP hD
            exact ihi (by omega) ls _ _ ⟨(lv_sub hl [0, 1, 2] rfl), hP, hD, hS⟩
          · have c6 : (u i) = false := (bI_z (u i)).mp c6
            refine lv_iconst (v := nI 1) hx hb dX2_perform_93 (by decide) ?_
            refine lv_goto (tgt := 98) hx hb dX2_perform_94 (by decide) ?_
            refine tp_i (y := bI (m_nt u th i i && !u i)) (b1 (by rw [c5, c6]; rfl)) ?_
            refine sM_there (x := (m_nt u th i i && !u i)) C hP hD hS (by omega) dX2_perform_98 (fun H locs hP hD hS => ?_)
            refine lv_iinc (v := nI (i + 1)) (lv' := [(2, .int (nI (i + 1))), (1, .int (nI (cn u 200))), (0, .ref (o 0))]) hx hb dX2_perform_99 hl (k := 0) rfl (nI_1 i) (by decide) rfl (fun ls hl => ?_)
            refine lv_goto (tgt := 62) hx hb dX2_perform_102 (by decide) ?_
            have e_th : (m_nt u th (i + 1)) = (va_up (m_nt u th i) i (m_nt u th i i && !u i)) := rfl
            rw [← e_th] at hP hD
            exact ihi (by omega) ls _ _ ⟨(lv_sub hl [0, 1, 2] rfl), hP, hD, hS⟩
    · have c3 : ¬ 300 ≤ k := fun z9 => c3 ((nI_leI (by omega) (by omega)).mpr z9)
      refine lv_aload_n hx hb dX2_perform_43 rfl (lv_at hl 2 rfl) ?_
      refine gM_values C hP dX2_perform_44 ?_
      refine lv_iload_n hx hb dX2_perform_47 rfl (lv_at hl 0 rfl) ?_
      refine lv_aload_n hx hb dX2_perform_48 rfl (lv_at hl 2 rfl) ?_
      refine lv_iload_n hx hb dX2_perform_49 rfl (lv_at hl 0 rfl) ?_
      refine pv (va_runV (As := [.int (nI k)]) (rest := [.int (nI k), .ref (o 1)]) ⟨hx, hb, hml, hown, hts⟩ (cM_total l hP hok (show k < 300 by omega)) (cwV 1 hts gM_72 rfl rfl rfl (by decide +kernel) (rmF hR (by decide) (by decide))) (kP_V C (va_recv C.2.2.2.2.1 hP (ci := ciM) (q0 := 0) rfl rfl)) rfl rfl hl.1 rfl (lv_room (Nat.le_of_ble_eq_true rfl)) dX2_perform_50 ⟨hR.2.2.1, hR.2.2.2⟩) ?_
      refine sM_values (x := m_tot mn po an (m_pv mn po an u n va k) u k n) C hP hD hS (by omega) dX2_perform_53 (fun H locs hP hD hS => ?_)
      refine lv_iinc (v := nI (k + 1)) (lv' := [(2, .int (nI (k + 1))), (1, .int (nI (cn u 200))), (0, .ref (o 0))]) hx hb dX2_perform_54 hl (k := 0) rfl (nI_1 k) (by decide) rfl (fun ls hl => ?_)
      refine lv_goto (tgt := 36) hx hb dX2_perform_57 (by decide) ?_
      have e_va : (m_pv mn po an u n va (k + 1)) = (va_up (m_pv mn po an u n va k) k (m_tot mn po an (m_pv mn po an u n va k) u k n)) := rfl
      rw [← e_va] at hP hD
      exact ihk (by omega) ls _ _ ⟨(lv_sub hl [0, 1, 2] rfl), hP, hD, hS⟩
  · have c1 : ¬ 300 ≤ g := fun z9 => c1 ((nI_leI (by omega) (by omega)).mpr z9)
    refine lv_aload_n hx hb dX2_perform_14 rfl (lv_at hl 2 rfl) ?_
    refine lv_iload_n hx hb dX2_perform_15 rfl (lv_at hl 0 rfl) ?_
    refine pv (va_runV (As := [.int (nI g)]) (rest := []) ⟨hx, hb, hml, hown, hts⟩ (cM_total l hP hok (show g < 300 by omega)) (cwV 1 hts gM_72 rfl rfl rfl (by decide +kernel) (rmF hR (by decide) (by decide))) (kP_V C (va_recv C.2.2.2.2.1 hP (ci := ciM) (q0 := 0) rfl rfl)) rfl rfl hl.1 rfl (lv_room (Nat.le_of_ble_eq_true rfl)) dX2_perform_16 ⟨hR.2.2.1, hR.2.2.2⟩) ?_
    refine lv_ldc2 (v := 1000000000000000000) hx hb hown (hts _ (by decide +kernel : Cond.constantLong RX2 35 1000000000000000000 ∈ tT)) dX2_perform_19 ?_
    refine W.lcmp hx hb dX2_perform_22 ?_
    refine lv_if_le (tgt := 28) hx hb dX2_perform_23 (by decide) (fun c2 => ?_) (fun c2 => ?_)
    · have c2 : (m_tot mn po an va u g n) ≤ 1000000000000000000 := (lg_cmp_le (m_tot mn po an va u g n) 1000000000000000000).mp c2
      refine lv_iinc (v := nI (g + 1)) (lv' := [(2, .int (nI (g + 1))), (1, .int (nI (cn u 200))), (0, .ref (o 0))]) hx hb dX2_perform_28 hl (k := 0) rfl (nI_1 g) (by decide) rfl (fun ls hl => ?_)
      refine lv_goto (tgt := 7) hx hb dX2_perform_31 (by decide) ?_
      exact ihg (by omega) ls ⟨(lv_sub hl [0, 1, 2] rfl), lt_s' hm (i64_le_nlt c2)⟩
    · have c2 : ¬ (m_tot mn po an va u g n) ≤ 1000000000000000000 := fun z9 => c2 ((lg_cmp_le (m_tot mn po an va u g n) 1000000000000000000).mpr z9)
      refine lv_iconst (v := (-1)) hx hb dX2_perform_26 (by decide) ?_
      exact W.iret (v := (-1)) hx hb hr (fun t ht _ => ⟨⟨_, (u, va, th), rfl, ⟨hms, hgd, Or.inl ⟨⟨g, by omega, i64_nle c2⟩, rfl, rfl, rfl⟩⟩, by rw [ht]; exact hP, hD⟩, hS.F ht⟩) hS.2.2 dX2_perform_27
end MM3
