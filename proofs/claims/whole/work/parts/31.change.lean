/-! ITEM: change -/
theorem i64_nle {a b : Int64} (h : ¬ a ≤ b) : b < a := by rw [i64_le] at h; rw [i64_lt]; omega
theorem i64_le_nlt {a b : Int64} (h : a ≤ b) : ¬ b < a := by rw [i64_le] at h; rw [i64_lt]; omega
theorem i64_nlt_le {a b : Int64} (h : ¬ a < b) : b ≤ a := by rw [i64_lt] at h; rw [i64_le]; omega
section MI2
variable {D : va_G} {K : Nat → ClassId} {H : Heap} {A : Nat → Prop} {R : va_W} {o : Nat → Nat} {ad : Nat → Nat × Nat × Nat} {va fl af : Nat → Int64} {bl : Nat → Bool} {n tc sc : Nat} {T S : Nat → Bool} {us : Nat → Nat} {ps : Nat → Nat → Nat} {am : Nat → Nat → Int64}
set_option maxHeartbeats 1000000 in
set_option maxRecDepth 100000 in
/-- change: as chC says -/
theorem cI_change (l : Launch) (hP : va_P D vwCl (dW R o K ad va fl af bl n tc sc T S us ps am) H) (hD : va_D A (dW R o K ad va fl af bl n tc sc T S us ps am)) {i : Nat} (hi : i < n) (hu : us i ≤ 16) {q : Nat} (hq3 : q < 300) (v : Int64) : Met l yX0_change (tC yX0_change cX0_change 7 (some .boolean)) (rmK 2 0 0) (kP D K H [.ref ((ad i).1), .int (nI q), .long v]) (qI D A (fun (r : Int32) (u : Unit) => r = bI (chC q v (us i) (ps i) (am i)).1) (fun u : Unit => dW R o K ad va fl af bl n tc sc T S (va_up us i (chC q v (us i) (ps i) (am i)).2.1) (va_up ps i (chC q v (us i) (ps i) (am i)).2.2.1) (va_up am i (chC q v (us i) (ps i) (am i)).2.2.2))) 0 0 A := by
  refine Met.ofW (cc := cX0_change) (maxL := 7) (ret := (some .boolean)) (by decide) rfl ?_
  intro p e s m args below meth c s₁ B hml hv
  obtain ⟨rfl, hH, hK, hN, hO⟩ := hv
  have hx := B.exec
  have hb := B.bytes
  have hr := B.returns
  have hts : ∀ w ∈ tT, w.before _ s = true := fun w h => atoms_spec (ws := tC yX0_change cX0_change 7 (some .boolean)) B.pre w (List.mem_cons_of_mem _ h)
  have hown : s.vm.findClass RX0 = some m.cls := findClass_of_methodNamed B.named
  have hlocks := B.notSynchronized
  have C : cx RX0 D K p s m _ c cX0_change := ⟨hx, hb, hown, hts, hK, hN, hO⟩
  have hR : rmOk (headSpec (tC yX0_change cX0_change 7 (some .boolean)) (rmK 2 0 0)).room 2 0 0 := ⟨Nat.le_refl _, Nat.le_refl _, Nat.le_refl _, Nat.le_refl _⟩
  subst hH
  have hS : va_S A s.heap s.heap [] := va_S.rf
  have hl := lv_entry ([.ref ((ad i).1), .int (nI q), .long v]) (n := 7) (Nat.le_of_ble_eq_true rfl)
  rw [lg_entry_eq]
  generalize (lg_sl ([.ref ((ad i).1), .int (nI q), .long v]) ++ List.replicate (7 - (lg_sl ([.ref ((ad i).1), .int (nI q), .long v])).length) Slot.unset).toArray = ls at hl ⊢
  have hl : lv_has ls 7 [(0, .ref ((ad i).1)), (1, .int (nI q)), (2, .long v)] := hl
  refine lv_lload_n hx hb dX0_change_0 rfl (lv_at hl 2 rfl) ?_
  refine lv_ldc2 (v := (-2000000000000000)) hx hb hown (hts _ (by decide +kernel : Cond.constantLong RX0 31 (-2000000000000000) ∈ tT)) dX0_change_1 ?_
  refine W.lcmp hx hb dX0_change_4 ?_
  refine lv_if_lt (tgt := 16) hx hb dX0_change_5 (by decide) (fun c1 => ?_) (fun c1 => ?_)
  · have c1 : v < (-2000000000000000) := (lg_cmp_lt v (-2000000000000000)).mp c1
    refine lv_iconst (v := nI 0) hx hb dX0_change_16 (by decide) ?_
    have hc : chC q v (us i) (ps i) (am i) = (false, us i, ps i, am i) := by
      unfold chC
      exact if_pos (Or.inl c1)
    have e1 : dW R o K ad va fl af bl n tc sc T S (va_up us i (chC q v (us i) (ps i) (am i)).2.1) (va_up ps i (chC q v (us i) (ps i) (am i)).2.2.1) (va_up am i (chC q v (us i) (ps i) (am i)).2.2.2) = dW R o K ad va fl af bl n tc sc T S us ps am := by rw [hc]; show dW R o K ad va fl af bl n tc sc T S (va_up us i (us i)) (va_up ps i (ps i)) (va_up am i (am i)) = _; rw [up_same us i, up_same ps i, up_same am i]
    rw [← e1] at hP hD
    exact W.zret (v := nI 0) hx hb hr (by decide) (fun t ht _ => ⟨⟨_, (), rfl, b0 (by rw [hc]), by rw [ht]; exact hP, hD⟩, hS.F ht⟩) hS.2.2 dX0_change_17
  · have c1 : ¬ v < (-2000000000000000) := fun z9 => c1 ((lg_cmp_lt v (-2000000000000000)).mpr z9)
    refine lv_lload_n hx hb dX0_change_8 rfl (lv_at hl 2 rfl) ?_
    refine lv_ldc2 (v := 2000000000000000) hx hb hown (hts _ (by decide +kernel : Cond.constantLong RX0 33 2000000000000000 ∈ tT)) dX0_change_9 ?_
    refine W.lcmp hx hb dX0_change_12 ?_
    refine lv_if_le (tgt := 18) hx hb dX0_change_13 (by decide) (fun c2 => ?_) (fun c2 => ?_)
    · have c2 : v ≤ 2000000000000000 := (lg_cmp_le v 2000000000000000).mp c2
      have n1 : ¬ (v < (-2000000000000000) ∨ 2000000000000000 < v) := fun z => z.elim c1 (i64_le_nlt c2)
      refine lv_aload_n hx hb dX0_change_18 rfl (lv_at hl 0 rfl) ?_
      refine lv_iload_n hx hb dX0_change_19 rfl (lv_at hl 1 rfl) ?_
      refine pv (va_runV (As := [.int (nI q)]) (rest := []) ⟨hx, hb, hml, hown, hts⟩ (cI_amountFor l hP hi hu (nI q)) (cwV 1 hts gI_35 rfl rfl rfl (by decide +kernel) (rmF hR (by decide) (by decide))) (kP_V C (va_recv C.2.2.2.2.1 hP (ci := ciI) (q0 := 6 + (R.length + 3 * i)) rfl (dW_0 hi))) rfl rfl hl.1 rfl (lv_room (Nat.le_of_ble_eq_true rfl)) dX0_change_20 ⟨hR.2.2.1, hR.2.2.2⟩) ?_
      refine lv_lload_n hx hb dX0_change_23 rfl (lv_at hl 2 rfl) ?_
      refine lv_ladd hx hb dX0_change_24 ?_
      refine tp_l (y := ntq (qx (ps i) (nI q)) (us i) (am i) + v) (rfl) ?_
      generalize hs : ntq (qx (ps i) (nI q)) (us i) (am i) + v = z
      refine lv_lstore (lv' := [(4, .long z), (0, .ref ((ad i).1)), (1, .int (nI q)), (2, .long v)]) hx hb dX0_change_25 hl (by decide) rfl (fun ls hl => ?_)
      refine lv_lload hx hb dX0_change_27 (lv_at hl 0 rfl) ?_
      refine lv_ldc2 (v := (-1000000000000000)) hx hb hown (hts _ (by decide +kernel : Cond.constantLong RX0 39 (-1000000000000000) ∈ tT)) dX0_change_29 ?_
      refine W.lcmp hx hb dX0_change_32 ?_
      refine lv_if_lt (tgt := 45) hx hb dX0_change_33 (by decide) (fun c3 => ?_) (fun c3 => ?_)
      · have c3 : z < (-1000000000000000) := (lg_cmp_lt z (-1000000000000000)).mp c3
        refine lv_iconst (v := nI 0) hx hb dX0_change_45 (by decide) ?_
        have hc : chC q v (us i) (ps i) (am i) = (false, us i, ps i, am i) := by
          unfold chC
          rw [if_neg n1, hs]
          exact if_pos (Or.inl c3)
        have e1 : dW R o K ad va fl af bl n tc sc T S (va_up us i (chC q v (us i) (ps i) (am i)).2.1) (va_up ps i (chC q v (us i) (ps i) (am i)).2.2.1) (va_up am i (chC q v (us i) (ps i) (am i)).2.2.2) = dW R o K ad va fl af bl n tc sc T S us ps am := by rw [hc]; show dW R o K ad va fl af bl n tc sc T S (va_up us i (us i)) (va_up ps i (ps i)) (va_up am i (am i)) = _; rw [up_same us i, up_same ps i, up_same am i]
        rw [← e1] at hP hD
        exact W.zret (v := nI 0) hx hb hr (by decide) (fun t ht _ => ⟨⟨_, (), rfl, b0 (by rw [hc]), by rw [ht]; exact hP, hD⟩, hS.F ht⟩) hS.2.2 dX0_change_46
      · have c3 : ¬ z < (-1000000000000000) := fun z9 => c3 ((lg_cmp_lt z (-1000000000000000)).mpr z9)
        refine lv_lload hx hb dX0_change_36 (lv_at hl 0 rfl) ?_
        refine lv_ldc2 (v := 1000000000000000) hx hb hown (hts _ (by decide +kernel : Cond.constantLong RX0 41 1000000000000000 ∈ tT)) dX0_change_38 ?_
        refine W.lcmp hx hb dX0_change_41 ?_
        refine lv_if_le (tgt := 47) hx hb dX0_change_42 (by decide) (fun c4 => ?_) (fun c4 => ?_)
        · have c4 : z ≤ 1000000000000000 := (lg_cmp_le z 1000000000000000).mp c4
          have n2 : ¬ (z < (-1000000000000000) ∨ 1000000000000000 < z) := fun y => y.elim c3 (i64_le_nlt c4)
          refine lv_aload_n hx hb dX0_change_47 rfl (lv_at hl 1 rfl) ?_
          refine lv_iload_n hx hb dX0_change_48 rfl (lv_at hl 2 rfl) ?_
          refine pv (va_runV (As := [.int (nI q)]) (rest := []) ⟨hx, hb, hml, hown, hts⟩ (cI_slotOf l hP hi hu (nI q)) (cwV 1 hts gI_27 rfl rfl rfl (by decide +kernel) (rmF hR (by decide) (by decide))) (kP_V C (va_recv C.2.2.2.2.1 hP (ci := ciI) (q0 := 6 + (R.length + 3 * i)) rfl (dW_0 hi))) rfl rfl hl.1 rfl (lv_room (Nat.le_of_ble_eq_true rfl)) dX0_change_49 ⟨hR.2.2.1, hR.2.2.2⟩) ?_
          rcases slR_or (ps i) (nI q) (us i) with ⟨h1, e1⟩ | ⟨h1, e1⟩
          · refine tp_i (y := nI (fs (qx (ps i) (nI q)) (us i) 0)) (e1) ?_
            refine lv_istore (lv' := [(6, .int (nI (fs (qx (ps i) (nI q)) (us i) 0))), (4, .long z), (0, .ref ((ad i).1)), (1, .int (nI q)), (2, .long v)]) hx hb dX0_change_52 hl (by decide) rfl (fun ls hl => ?_)
            refine lv_iload hx hb dX0_change_54 (lv_at hl 0 rfl) ?_
            refine lv_if_ge (tgt := 82) hx hb dX0_change_56 (by decide) (fun c5 => ?_) (fun c5 => ?_)
            · refine lv_aload_n hx hb dX0_change_82 rfl (lv_at hl 2 rfl) ?_
              refine gII_amounts C hP hi dX0_change_83 ?_
              refine lv_iload hx hb dX0_change_86 (lv_at hl 0 rfl) ?_
              refine lv_lload hx hb dX0_change_88 (lv_at hl 1 rfl) ?_
              refine sI_amounts C hP hD hS hi (by omega) dX0_change_90 (fun H locs hP hD hS => ?_)
              refine lv_lload hx hb dX0_change_91 (lv_at hl 1 rfl) ?_
              refine lv_lconst (v := 0) hx hb dX0_change_93 (by decide) ?_
              refine W.lcmp hx hb dX0_change_94 ?_
              refine lv_if_ne (tgt := 104) hx hb dX0_change_95 (by decide) (fun c6 => ?_) (fun c6 => ?_)
              · have c6 : ¬ z = 0 := fun z9 => c6 ((lg_cmp_eq z 0).mpr z9)
                refine lv_iconst (v := nI 1) hx hb dX0_change_104 (by decide) ?_
                have hc : chC q v (us i) (ps i) (am i) = (true, us i, ps i, va_up (am i) (fs (qx (ps i) (nI q)) (us i) 0) z) := by
                  unfold chC
                  rw [if_neg n1, hs, if_neg n2, if_pos h1]
                  exact if_neg c6
                have e1 : dW R o K ad va fl af bl n tc sc T S (va_up us i (chC q v (us i) (ps i) (am i)).2.1) (va_up ps i (chC q v (us i) (ps i) (am i)).2.2.1) (va_up am i (chC q v (us i) (ps i) (am i)).2.2.2) = dW R o K ad va fl af bl n tc sc T S us ps (va_up am i (va_up (am i) (fs (qx (ps i) (nI q)) (us i) 0) z)) := by rw [hc]; show dW R o K ad va fl af bl n tc sc T S (va_up us i (us i)) (va_up ps i (ps i)) (va_up am i (va_up (am i) (fs (qx (ps i) (nI q)) (us i) 0) z)) = _; rw [up_same us i, up_same ps i]
                rw [← e1] at hP hD
                exact W.zret (v := nI 1) hx hb hr (by decide) (fun t ht _ => ⟨⟨_, (), rfl, b1 (by rw [hc]), by rw [ht]; exact hP, hD⟩, hS.F ht⟩) hS.2.2 dX0_change_105
              · have c6 : z = 0 := (lg_cmp_eq z 0).mp c6
                refine lv_aload_n hx hb dX0_change_98 rfl (lv_at hl 2 rfl) ?_
                refine lv_iload hx hb dX0_change_99 (lv_at hl 0 rfl) ?_
                refine wv (va_runV (As := [.int (nI (fs (qx (ps i) (nI q)) (us i) 0))]) (rest := []) ⟨hx, hb, hml, hown, hts⟩ (cI_freeSlot l hP hD hi hu h1) (cwV 1 hts gI_47 rfl rfl rfl (by decide +kernel) (rmF hR (by decide) (by decide))) (kP_V C (va_recv C.2.2.2.2.1 hP (ci := ciI) (q0 := 6 + (R.length + 3 * i)) rfl (dW_0 hi))) rfl rfl hl.1 rfl (lv_room (Nat.le_of_ble_eq_true rfl)) dX0_change_101 ⟨hR.2.2.1, hR.2.2.2⟩) hS (fun _ H locs hq hP hD hS => ?_)
                refine lv_iconst (v := nI 1) hx hb dX0_change_104 (by decide) ?_
                have hc : chC q v (us i) (ps i) (am i) = (true, us i - 1, va_up (ps i) (fs (qx (ps i) (nI q)) (us i) 0) (ps i (us i - 1)), va_up (va_up (am i) (fs (qx (ps i) (nI q)) (us i) 0) z) (fs (qx (ps i) (nI q)) (us i) 0) (va_up (am i) (fs (qx (ps i) (nI q)) (us i) 0) z (us i - 1))) := by
                  unfold chC
                  rw [if_neg n1, hs, if_neg n2, if_pos h1]
                  exact if_pos c6
                have e1 : dW R o K ad va fl af bl n tc sc T S (va_up us i (chC q v (us i) (ps i) (am i)).2.1) (va_up ps i (chC q v (us i) (ps i) (am i)).2.2.1) (va_up am i (chC q v (us i) (ps i) (am i)).2.2.2) = dW R o K ad va fl af bl n tc sc T S (va_up us i (us i - 1)) (va_up ps i (va_up (ps i) (fs (qx (ps i) (nI q)) (us i) 0) (ps i (us i - 1)))) (va_up (va_up am i (va_up (am i) (fs (qx (ps i) (nI q)) (us i) 0) z)) i (va_up ((va_up am i (va_up (am i) (fs (qx (ps i) (nI q)) (us i) 0) z)) i) (fs (qx (ps i) (nI q)) (us i) 0) ((va_up am i (va_up (am i) (fs (qx (ps i) (nI q)) (us i) 0) z)) i (us i - 1)))) := by rw [hc, bx_uu am i, va_up_self am i]
                rw [← e1] at hP hD
                exact W.zret (v := nI 1) hx hb hr (by decide) (fun t ht _ => ⟨⟨_, (), rfl, b1 (by rw [hc]), by rw [ht]; exact hP, hD⟩, hS.F ht⟩) hS.2.2 dX0_change_105
            · exact absurd (nI_pos' (by omega)) c5
          · refine tp_i (y := (-1)) (e1) ?_
            refine lv_istore (lv' := [(6, .int (-1)), (4, .long z), (0, .ref ((ad i).1)), (1, .int (nI q)), (2, .long v)]) hx hb dX0_change_52 hl (by decide) rfl (fun ls hl => ?_)
            refine lv_iload hx hb dX0_change_54 (lv_at hl 0 rfl) ?_
            refine lv_if_ge (tgt := 82) hx hb dX0_change_56 (by decide) (fun c5 => ?_) (fun c5 => ?_)
            · exact absurd c5 (by decide)
            · refine lv_lload hx hb dX0_change_59 (lv_at hl 1 rfl) ?_
              refine lv_lconst (v := 0) hx hb dX0_change_61 (by decide) ?_
              refine W.lcmp hx hb dX0_change_62 ?_
              refine lv_if_eq (tgt := 76) hx hb dX0_change_63 (by decide) (fun c6 => ?_) (fun c6 => ?_)
              · have c6 : z = 0 := (lg_cmp_eq z 0).mp c6
                refine lv_iconst (v := nI 1) hx hb dX0_change_76 (by decide) ?_
                refine lv_goto (tgt := 81) hx hb dX0_change_77 (by decide) ?_
                have hc : chC q v (us i) (ps i) (am i) = (true, us i, ps i, am i) := by
                  unfold chC
                  rw [if_neg n1, hs, if_neg n2, if_neg h1]
                  exact if_pos c6
                have e1 : dW R o K ad va fl af bl n tc sc T S (va_up us i (chC q v (us i) (ps i) (am i)).2.1) (va_up ps i (chC q v (us i) (ps i) (am i)).2.2.1) (va_up am i (chC q v (us i) (ps i) (am i)).2.2.2) = dW R o K ad va fl af bl n tc sc T S us ps am := by rw [hc]; show dW R o K ad va fl af bl n tc sc T S (va_up us i (us i)) (va_up ps i (ps i)) (va_up am i (am i)) = _; rw [up_same us i, up_same ps i, up_same am i]
                rw [← e1] at hP hD
                exact W.zret (v := nI 1) hx hb hr (by decide) (fun t ht _ => ⟨⟨_, (), rfl, b1 (by rw [hc]), by rw [ht]; exact hP, hD⟩, hS.F ht⟩) hS.2.2 dX0_change_81
              · have c6 : ¬ z = 0 := fun z9 => c6 ((lg_cmp_eq z 0).mpr z9)
                refine lv_aload_n hx hb dX0_change_66 rfl (lv_at hl 2 rfl) ?_
                refine lv_iload_n hx hb dX0_change_67 rfl (lv_at hl 3 rfl) ?_
                refine lv_lload hx hb dX0_change_68 (lv_at hl 1 rfl) ?_
                by_cases h16 : 16 ≤ us i
                · refine pv (va_runV (As := [.int (nI q), .long z]) (rest := []) ⟨hx, hb, hml, hown, hts⟩ (cI_addSlot_no l hP hi h16 hu (nI q) z) (cwV 2 hts gI_43 rfl rfl rfl (by decide +kernel) (rmF hR (by decide) (by decide))) (kP_V C (va_recv C.2.2.2.2.1 hP (ci := ciI) (q0 := 6 + (R.length + 3 * i)) rfl (dW_0 hi))) rfl rfl hl.1 rfl (lv_room (Nat.le_of_ble_eq_true rfl)) dX0_change_70 ⟨hR.2.2.1, hR.2.2.2⟩) ?_
                  refine lv_if_eq (tgt := 80) hx hb dX0_change_73 (by decide) (fun c7 => ?_) (fun c7 => ?_)
                  · refine lv_iconst (v := nI 0) hx hb dX0_change_80 (by decide) ?_
                    have hc : chC q v (us i) (ps i) (am i) = (false, us i, ps i, am i) := by
                      unfold chC
                      rw [if_neg n1, hs, if_neg n2, if_neg h1, if_neg c6]
                      exact if_pos h16
                    have e1 : dW R o K ad va fl af bl n tc sc T S (va_up us i (chC q v (us i) (ps i) (am i)).2.1) (va_up ps i (chC q v (us i) (ps i) (am i)).2.2.1) (va_up am i (chC q v (us i) (ps i) (am i)).2.2.2) = dW R o K ad va fl af bl n tc sc T S us ps am := by rw [hc]; show dW R o K ad va fl af bl n tc sc T S (va_up us i (us i)) (va_up ps i (ps i)) (va_up am i (am i)) = _; rw [up_same us i, up_same ps i, up_same am i]
                    rw [← e1] at hP hD
                    exact W.zret (v := nI 0) hx hb hr (by decide) (fun t ht _ => ⟨⟨_, (), rfl, b0 (by rw [hc]), by rw [ht]; exact hP, hD⟩, hS.F ht⟩) hS.2.2 dX0_change_81
                  · exact absurd (by decide) c7
                · refine wi (va_runV (As := [.int (nI q), .long z]) (rest := []) ⟨hx, hb, hml, hown, hts⟩ (cI_addSlot l hP hD hi (by omega) q z) (cwV 2 hts gI_43 rfl rfl rfl (by decide +kernel) (rmF hR (by decide) (by decide))) (kP_V C (va_recv C.2.2.2.2.1 hP (ci := ciI) (q0 := 6 + (R.length + 3 * i)) rfl (dW_0 hi))) rfl rfl hl.1 rfl (lv_room (Nat.le_of_ble_eq_true rfl)) dX0_change_70 ⟨hR.2.2.1, hR.2.2.2⟩) hS (fun r _ H locs hq hP hD hS => ?_)
                  subst hq
                  refine lv_if_eq (tgt := 80) hx hb dX0_change_73 (by decide) (fun c7 => ?_) (fun c7 => ?_)
                  · exact absurd c7 (by decide)
                  · refine lv_iconst (v := nI 1) hx hb dX0_change_76 (by decide) ?_
                    refine lv_goto (tgt := 81) hx hb dX0_change_77 (by decide) ?_
                    have hc : chC q v (us i) (ps i) (am i) = (true, us i + 1, va_up (ps i) (us i) q, va_up (am i) (us i) z) := by
                      unfold chC
                      rw [if_neg n1, hs, if_neg n2, if_neg h1, if_neg c6]
                      exact if_neg h16
                    have e1 : dW R o K ad va fl af bl n tc sc T S (va_up us i (chC q v (us i) (ps i) (am i)).2.1) (va_up ps i (chC q v (us i) (ps i) (am i)).2.2.1) (va_up am i (chC q v (us i) (ps i) (am i)).2.2.2) = dW R o K ad va fl af bl n tc sc T S (va_up us i (us i + 1)) (va_up ps i (va_up (ps i) (us i) q)) (va_up am i (va_up (am i) (us i) z)) := by rw [hc]
                    rw [← e1] at hP hD
                    exact W.zret (v := nI 1) hx hb hr (by decide) (fun t ht _ => ⟨⟨_, (), rfl, b1 (by rw [hc]), by rw [ht]; exact hP, hD⟩, hS.F ht⟩) hS.2.2 dX0_change_81
        · have c4 : ¬ z ≤ 1000000000000000 := fun z9 => c4 ((lg_cmp_le z 1000000000000000).mpr z9)
          refine lv_iconst (v := nI 0) hx hb dX0_change_45 (by decide) ?_
          have hc : chC q v (us i) (ps i) (am i) = (false, us i, ps i, am i) := by
            unfold chC
            rw [if_neg n1, hs]
            exact if_pos (Or.inr (i64_nle c4))
          have e1 : dW R o K ad va fl af bl n tc sc T S (va_up us i (chC q v (us i) (ps i) (am i)).2.1) (va_up ps i (chC q v (us i) (ps i) (am i)).2.2.1) (va_up am i (chC q v (us i) (ps i) (am i)).2.2.2) = dW R o K ad va fl af bl n tc sc T S us ps am := by rw [hc]; show dW R o K ad va fl af bl n tc sc T S (va_up us i (us i)) (va_up ps i (ps i)) (va_up am i (am i)) = _; rw [up_same us i, up_same ps i, up_same am i]
          rw [← e1] at hP hD
          exact W.zret (v := nI 0) hx hb hr (by decide) (fun t ht _ => ⟨⟨_, (), rfl, b0 (by rw [hc]), by rw [ht]; exact hP, hD⟩, hS.F ht⟩) hS.2.2 dX0_change_46
    · have c2 : ¬ v ≤ 2000000000000000 := fun z9 => c2 ((lg_cmp_le v 2000000000000000).mpr z9)
      refine lv_iconst (v := nI 0) hx hb dX0_change_16 (by decide) ?_
      have hc : chC q v (us i) (ps i) (am i) = (false, us i, ps i, am i) := by
        unfold chC
        exact if_pos (Or.inr (i64_nle c2))
      have e1 : dW R o K ad va fl af bl n tc sc T S (va_up us i (chC q v (us i) (ps i) (am i)).2.1) (va_up ps i (chC q v (us i) (ps i) (am i)).2.2.1) (va_up am i (chC q v (us i) (ps i) (am i)).2.2.2) = dW R o K ad va fl af bl n tc sc T S us ps am := by rw [hc]; show dW R o K ad va fl af bl n tc sc T S (va_up us i (us i)) (va_up ps i (ps i)) (va_up am i (am i)) = _; rw [up_same us i, up_same ps i, up_same am i]
      rw [← e1] at hP hD
      exact W.zret (v := nI 0) hx hb hr (by decide) (fun t ht _ => ⟨⟨_, (), rfl, b0 (by rw [hc]), by rw [ht]; exact hP, hD⟩, hS.F ht⟩) hS.2.2 dX0_change_17
end MI2
