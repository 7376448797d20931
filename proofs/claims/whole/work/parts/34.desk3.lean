/-! GRIDDESK: the search, solve, perform -/
section CPY
variable {p : Program} {l : Launch} {e : Env} {Rm : Room} {s : State} {m : MethodId} {args : Array Value} {below : List Frame} {meth : Method} {c : Code} {H : Heap} {locs : List Loc} {cells slots : Nat} {Q : State → Prop} {cc : ByteArray} {pc : Nat} {ls : Array Slot} {D : va_G} {A : Nat → Prop} {H0 : Heap}
variable {R : va_W} {o : Nat → Nat} {K : Nat → ClassId} {ad : Nat → Nat × Nat × Nat} {va fl af : Nat → Int64} {bl : Nat → Bool} {n tc sc : Nat} {T S : Nat → Bool} {us : Nat → Nat} {ps : Nat → Nat → Nat} {am : Nat → Nat → Int64}
/-- after is copied to values -/
theorem cpD (C : cx RX1 D K p s m args c cc) (hml : c.maxLocals = ls.size) (hP : va_P D vwCl (dW R o K ad va fl af bl n tc sc T S us ps am) H) (hD : va_D A (dW R o K ad va fl af bl n tc sc T S us ps am)) (hS : va_S A H0 H locs) (hf : 1 ≤ Rm.frames) (hlo : 28 ≤ Rm.locals) (hdg : decode cc pc = .ok (.invokestatic 73, 3)) (kk : ∀ (H1 : Heap) (locs1 : List Loc), va_P D vwCl (dW R o K ad (va_cpy af va 0 0 300) fl af bl n tc sc T S us ps am) H1 → va_D A (dW R o K ad (va_cpy af va 0 0 300) fl af bl n tc sc T S us ps am) → va_S A H0 H1 locs1 → W p l e Rm s m args below meth c H1 locs1 cells slots Q (F0 m (pc + 3) ls [])) : W p l e Rm s m args below meth c H locs cells slots Q (F0 m pc ls [.int (nI 300), .int (nI 0), .ref (o 1), .int (nI 0), .ref (o 4)]) := by
  refine va_copyl (ty := .long) C.1 C.2.1 hml C.2.2.1 (C.2.2.2.1 _ (by decide +kernel : Cond.methodLink RX1 73 arraycopyName ∈ tT)) (C.2.2.2.1 _ (by decide +kernel : Cond.native arraycopyName ∈ tT)) (C.2.2.2.1 _ (by decide +kernel : Cond.static arraycopyName ∈ tT)) (C.2.2.2.1 _ (by decide +kernel : Cond.initialized "java/lang/System" ∈ tT)) C.2.2.2.2.1 hP hD hS 4 1 0 0 rfl rfl rfl rfl rfl (by decide) (by decide) (by decide) (by decide) (by decide) (fun _ _ => rfl) hf (Nat.le_trans (Nat.le_of_ble_eq_true rfl) hlo) hdg (fun H1 locs1 h1 h2 h3 => ?_)
  rw [show (nI 0).toNatClampNeg = 0 by decide, show (nI 300).toNatClampNeg = 300 by decide] at h1 h2
  exact kk H1 locs1 h1 h2 h3
end CPY
section MD3
variable {D : va_G} {K : Nat → ClassId} {H : Heap} {A : Nat → Prop} {R : va_W} {o : Nat → Nat} {ad : Nat → Nat × Nat × Nat} {va fl af : Nat → Int64} {bl : Nat → Bool} {n tc sc : Nat} {T S : Nat → Bool} {us : Nat → Nat} {ps : Nat → Nat → Nat} {am : Nat → Nat → Int64}
set_option maxHeartbeats 1000000 in
set_option maxRecDepth 100000 in
theorem cD_dropHopeless (l : Launch) (hP : va_P D vwCl (dW R o K ad va fl af bl n tc sc T S us ps am) H) (hD : va_D A (dW R o K ad va fl af bl n tc sc T S us ps am)) (hok : cl_ok us ps am va fl n) (hI : fg_inv us ps am T va fl n (S, af, bl, sc)) : Met l yX1_dropHopeless (tC yX1_dropHopeless cX1_dropHopeless 4 (some .boolean)) (rmK 1 0 0) (kP D K H [.ref (o 0)]) (qI D A (fun (r : Int32) (u : Unit) => r = bI (decide ((swp us ps am T va fl n (S, af, bl, sc)).2.2.2 < sc))) (fun u : Unit => dW R o K ad va fl ((swp us ps am T va fl n (S, af, bl, sc)).2.1) ((swp us ps am T va fl n (S, af, bl, sc)).2.2.1) n tc ((swp us ps am T va fl n (S, af, bl, sc)).2.2.2) T ((swp us ps am T va fl n (S, af, bl, sc)).1) us ps am)) 0 0 A := by
  refine Met.ofW (cc := cX1_dropHopeless) (maxL := 4) (ret := (some .boolean)) (by decide) rfl ?_
  intro p e s m args below meth c s₁ B hml hv
  obtain ⟨rfl, hH, hK, hN, hO⟩ := hv
  have hx := B.exec
  have hb := B.bytes
  have hr := B.returns
  have hts : ∀ w ∈ tT, w.before _ s = true := fun w h => atoms_spec (ws := tC yX1_dropHopeless cX1_dropHopeless 4 (some .boolean)) B.pre w (List.mem_cons_of_mem _ h)
  have hown : s.vm.findClass RX1 = some m.cls := findClass_of_methodNamed B.named
  have hlocks := B.notSynchronized
  have C : cx RX1 D K p s m _ c cX1_dropHopeless := ⟨hx, hb, hown, hts, hK, hN, hO⟩
  have hR : rmOk (headSpec (tC yX1_dropHopeless cX1_dropHopeless 4 (some .boolean)) (rmK 1 0 0)).room 1 0 0 := ⟨Nat.le_refl _, Nat.le_refl _, Nat.le_refl _, Nat.le_refl _⟩
  subst hH
  have hS : va_S A s.heap s.heap [] := va_S.rf
  have hl := lv_entry ([.ref (o 0)]) (n := 4) (Nat.le_of_ble_eq_true rfl)
  rw [lg_entry_eq]
  generalize (lg_sl ([.ref (o 0)]) ++ List.replicate (4 - (lg_sl ([.ref (o 0)])).length) Slot.unset).toArray = ls at hl ⊢
  have hl : lv_has ls 4 [(0, .ref (o 0))] := hl
  have hn200 : n ≤ 200 := hok.1
  have hu : ∀ i, i < n → us i ≤ 16 := fun i hi => (hok.2.1 i hi).1
  have hp : ∀ i k, i < n → k < us i → ps i k < 300 := fun i k hi hk => (hok.2.1 i hi).2.1 k hk
  have hall : ∀ i, i ≤ n → sw_inv us ps am T va fl n S i (dh us ps am T fl (S, gv_out us ps am S (sr_a va af 300) n, sr_b bl 300, sc) i) := sw_all hok hI
  have hb2 : sc ≤ 200 := by
    have q1 : sc = cn S n := hI.2.2
    have q2 := cn_le S n
    omega
  have hb1 : (dh us ps am T fl (S, gv_out us ps am S (sr_a va af 300) n, sr_b bl 300, sc) n).2.2.2 ≤ 200 := by
    rw [(hall n (Nat.le_refl n)).2.2.2.2.1]
    exact Nat.le_trans (cn_le _ n) hn200
  refine lv_aload_n hx hb dX1_dropHopeless_0 rfl (lv_at hl 0 rfl) ?_
  refine wv (va_runV (As := []) (rest := []) ⟨hx, hb, hml, hown, hts⟩ (cD_startRows l hP hD) (cwV 0 hts gD_96 rfl rfl rfl (by decide +kernel) (rmF hR (by decide) (by decide))) (kP_V C (va_recv C.2.2.2.2.1 hP (ci := ciD) (q0 := 0) rfl rfl)) rfl rfl hl.1 rfl (lv_room (Nat.le_of_ble_eq_true rfl)) dX1_dropHopeless_1 ⟨hR.2.2.1, hR.2.2.2⟩) hS (fun _ H locs hq hP hD hS => ?_)
  refine lv_aload_n hx hb dX1_dropHopeless_4 rfl (lv_at hl 0 rfl) ?_
  refine wv (va_runV (As := []) (rest := []) ⟨hx, hb, hml, hown, hts⟩ (cD_giveAll l hP hD hn200 hu hp) (cwV 0 hts gD_99 rfl rfl rfl (by decide +kernel) (rmF hR (by decide) (by decide))) (kP_V C (va_recv C.2.2.2.2.1 hP (ci := ciD) (q0 := 0) rfl rfl)) rfl rfl hl.1 rfl (lv_room (Nat.le_of_ble_eq_true rfl)) dX1_dropHopeless_5 ⟨hR.2.2.1, hR.2.2.2⟩) hS (fun _ H locs hq hP hD hS => ?_)
  refine lv_aload_n hx hb dX1_dropHopeless_8 rfl (lv_at hl 0 rfl) ?_
  refine gD_setCount C hP dX1_dropHopeless_9 ?_
  refine lv_istore_n (lv' := [(1, .int (nI sc)), (0, .ref (o 0))]) hx hb dX1_dropHopeless_12 rfl hl (by decide) rfl (fun ls hl => ?_)
  refine lv_iconst (v := nI 0) hx hb dX1_dropHopeless_13 (by decide) ?_
  refine lv_istore_n (lv' := [(2, .int (nI 0)), (1, .int (nI sc)), (0, .ref (o 0))]) hx hb dX1_dropHopeless_14 rfl hl (by decide) rfl (fun ls hl => ?_)
  refine lpM (U := n) (pcH := 15) (I := fun i ls H locs => lv_has ls 4 [(2, .int (nI i)), (1, .int (nI sc)), (0, .ref (o 0))] ∧ va_P D vwCl (dW R o K ad va fl ((dh us ps am T fl (S, gv_out us ps am S (sr_a va af 300) n, sr_b bl 300, sc) i).2.1) ((dh us ps am T fl (S, gv_out us ps am S (sr_a va af 300) n, sr_b bl 300, sc) i).2.2.1) n tc ((dh us ps am T fl (S, gv_out us ps am S (sr_a va af 300) n, sr_b bl 300, sc) i).2.2.2) T ((dh us ps am T fl (S, gv_out us ps am S (sr_a va af 300) n, sr_b bl 300, sc) i).1) us ps am) H ∧ va_D A (dW R o K ad va fl ((dh us ps am T fl (S, gv_out us ps am S (sr_a va af 300) n, sr_b bl 300, sc) i).2.1) ((dh us ps am T fl (S, gv_out us ps am S (sr_a va af 300) n, sr_b bl 300, sc) i).2.2.1) n tc ((dh us ps am T fl (S, gv_out us ps am S (sr_a va af 300) n, sr_b bl 300, sc) i).2.2.2) T ((dh us ps am T fl (S, gv_out us ps am S (sr_a va af 300) n, sr_b bl 300, sc) i).1) us ps am) ∧ va_S A s.heap H locs) (fun i ls H locs hki hI ihi => ?_) 0 ls _ _ (Nat.zero_le _) ⟨(lv_sub hl [0, 1, 2] rfl), hP, hD, hS⟩
  obtain ⟨hl, hP, hD, hS⟩ := hI
  refine lv_iload_n hx hb dX1_dropHopeless_15 rfl (lv_at hl 0 rfl) ?_
  refine lv_aload_n hx hb dX1_dropHopeless_16 rfl (lv_at hl 2 rfl) ?_
  refine gD_itemCount C hP dX1_dropHopeless_17 ?_
  refine lv_icmp_ge (tgt := 78) hx hb dX1_dropHopeless_20 (by decide) (fun c1 => ?_) (fun c1 => ?_)
  · have c1 : n ≤ i := (nI_leI (by omega) (by omega)).mp c1
    rw [show i = n by omega] at hP hD
    refine lv_aload_n hx hb dX1_dropHopeless_78 rfl (lv_at hl 2 rfl) ?_
    refine gD_setCount C hP dX1_dropHopeless_79 ?_
    refine lv_iload_n hx hb dX1_dropHopeless_82 rfl (lv_at hl 1 rfl) ?_
    refine lv_icmp_ge (tgt := 90) hx hb dX1_dropHopeless_83 (by decide) (fun c5 => ?_) (fun c5 => ?_)
    · have c5 : sc ≤ (dh us ps am T fl (S, gv_out us ps am S (sr_a va af 300) n, sr_b bl 300, sc) n).2.2.2 := (nI_leI (by omega) (by omega)).mp c5
      refine lv_iconst (v := nI 0) hx hb dX1_dropHopeless_90 (by decide) ?_
      exact W.zret (v := nI 0) hx hb hr (by decide) (fun t ht _ => ⟨⟨_, (), rfl, b0 (decide_eq_false (show ¬ (swp us ps am T va fl n (S, af, bl, sc)).2.2.2 < sc from Nat.not_lt.mpr c5)), by rw [ht]; exact hP, hD⟩, hS.F ht⟩) hS.2.2 dX1_dropHopeless_91
    · have c5 : ¬ sc ≤ (dh us ps am T fl (S, gv_out us ps am S (sr_a va af 300) n, sr_b bl 300, sc) n).2.2.2 := fun z9 => c5 ((nI_leI (by omega) (by omega)).mpr z9)
      refine lv_iconst (v := nI 1) hx hb dX1_dropHopeless_86 (by decide) ?_
      refine lv_goto (tgt := 91) hx hb dX1_dropHopeless_87 (by decide) ?_
      exact W.zret (v := nI 1) hx hb hr (by decide) (fun t ht _ => ⟨⟨_, (), rfl, b1 (decide_eq_true (show (swp us ps am T va fl n (S, af, bl, sc)).2.2.2 < sc from Nat.not_le.mp c5)), by rw [ht]; exact hP, hD⟩, hS.F ht⟩) hS.2.2 dX1_dropHopeless_91
  · have c1 : ¬ n ≤ i := fun z9 => c1 ((nI_leI (by omega) (by omega)).mpr z9)
    refine lv_aload_n hx hb dX1_dropHopeless_23 rfl (lv_at hl 2 rfl) ?_
    refine gD_items C hP dX1_dropHopeless_24 ?_
    refine lv_iload_n hx hb dX1_dropHopeless_27 rfl (lv_at hl 0 rfl) ?_
    refine lD_items C hP hn200 (by omega) dX1_dropHopeless_28 ?_
    refine lv_astore_n (lv' := [(3, .ref ((ad i).1)), (2, .int (nI i)), (1, .int (nI sc)), (0, .ref (o 0))]) hx hb dX1_dropHopeless_29 rfl hl (by decide) rfl (fun ls hl => ?_)
    refine lv_aload_n hx hb dX1_dropHopeless_30 rfl (lv_at hl 0 rfl) ?_
    refine lv_ifnull hx hb dX1_dropHopeless_31 ?_
    refine lv_aload_n hx hb dX1_dropHopeless_34 rfl (lv_at hl 0 rfl) ?_
    refine gDI_there C hP (by omega) dX1_dropHopeless_35 ?_
    refine lv_if_ne (tgt := 44) hx hb dX1_dropHopeless_38 (by decide) (fun c2 => ?_) (fun c2 => ?_)
    · have c2 : (T i) = true := (bI_nz (T i)).mp c2
      refine lv_aload_n hx hb dX1_dropHopeless_44 rfl (lv_at hl 0 rfl) ?_
      refine gDI_inSet C hP (by omega) dX1_dropHopeless_45 ?_
      refine lv_if_eq (tgt := 67) hx hb dX1_dropHopeless_48 (by decide) (fun c3 => ?_) (fun c3 => ?_)
      · have c3 : ((dh us ps am T fl (S, gv_out us ps am S (sr_a va af 300) n, sr_b bl 300, sc) i).1 i) = false := (bI_z ((dh us ps am T fl (S, gv_out us ps am S (sr_a va af 300) n, sr_b bl 300, sc) i).1 i)).mp c3
        refine lv_aload_n hx hb dX1_dropHopeless_67 rfl (lv_at hl 3 rfl) ?_
        refine lv_aload_n hx hb dX1_dropHopeless_68 rfl (lv_at hl 0 rfl) ?_
        refine wv (va_runV (As := [.ref ((ad i).1)]) (rest := []) ⟨hx, hb, hml, hown, hts⟩ (cD_drop l hP hD (by omega) (hu i (by omega)) (fun k hk => hp i k (by omega) hk) (fun z => by rw [(hall i (by omega)).2.2.2.2.1]; exact cn_pos (by omega) z)) (cwV 1 hts gD_110 rfl rfl rfl (by decide +kernel) (rmF hR (by decide) (by decide))) (kP_V C (va_recv C.2.2.2.2.1 hP (ci := ciD) (q0 := 0) rfl rfl)) rfl rfl hl.1 rfl (lv_room (Nat.le_of_ble_eq_true rfl)) dX1_dropHopeless_69 ⟨hR.2.2.1, hR.2.2.2⟩) hS (fun _ H locs hq hP hD hS => ?_)
        refine lv_iinc (v := nI (i + 1)) (lv' := [(2, .int (nI (i + 1))), (3, .ref ((ad i).1)), (1, .int (nI sc)), (0, .ref (o 0))]) hx hb dX1_dropHopeless_72 hl (k := 1) rfl (nI_1 i) (by decide) rfl (fun ls hl => ?_)
        refine lv_goto (tgt := 15) hx hb dX1_dropHopeless_75 (by decide) ?_
        have hd : (dh us ps am T fl (S, gv_out us ps am S (sr_a va af 300) n, sr_b bl 300, sc) (i + 1)) = (va_up (dh us ps am T fl (S, gv_out us ps am S (sr_a va af 300) n, sr_b bl 300, sc) i).1 i false, (dh us ps am T fl (S, gv_out us ps am S (sr_a va af 300) n, sr_b bl 300, sc) i).2.1, bk_in (ps i) (am i) (dh us ps am T fl (S, gv_out us ps am S (sr_a va af 300) n, sr_b bl 300, sc) i).2.2.1 (us i), if (dh us ps am T fl (S, gv_out us ps am S (sr_a va af 300) n, sr_b bl 300, sc) i).1 i = true then (dh us ps am T fl (S, gv_out us ps am S (sr_a va af 300) n, sr_b bl 300, sc) i).2.2.2 - 1 else (dh us ps am T fl (S, gv_out us ps am S (sr_a va af 300) n, sr_b bl 300, sc) i).2.2.2) := (if_pos c2).trans (if_neg (fun z => absurd (c3.symm.trans z.1) (by decide)))
        have e_S : (dh us ps am T fl (S, gv_out us ps am S (sr_a va af 300) n, sr_b bl 300, sc) (i + 1)).1 = (va_up (dh us ps am T fl (S, gv_out us ps am S (sr_a va af 300) n, sr_b bl 300, sc) i).1 i false) := by rw [hd]
        rw [← e_S] at hP hD
        have e_af : (dh us ps am T fl (S, gv_out us ps am S (sr_a va af 300) n, sr_b bl 300, sc) (i + 1)).2.1 = (dh us ps am T fl (S, gv_out us ps am S (sr_a va af 300) n, sr_b bl 300, sc) i).2.1 := by rw [hd]
        rw [← e_af] at hP hD
        have e_bl : (dh us ps am T fl (S, gv_out us ps am S (sr_a va af 300) n, sr_b bl 300, sc) (i + 1)).2.2.1 = (bk_in (ps i) (am i) (dh us ps am T fl (S, gv_out us ps am S (sr_a va af 300) n, sr_b bl 300, sc) i).2.2.1 (us i)) := by rw [hd]
        rw [← e_bl] at hP hD
        have e_sc : (dh us ps am T fl (S, gv_out us ps am S (sr_a va af 300) n, sr_b bl 300, sc) (i + 1)).2.2.2 = (if (dh us ps am T fl (S, gv_out us ps am S (sr_a va af 300) n, sr_b bl 300, sc) i).1 i = true then (dh us ps am T fl (S, gv_out us ps am S (sr_a va af 300) n, sr_b bl 300, sc) i).2.2.2 - 1 else (dh us ps am T fl (S, gv_out us ps am S (sr_a va af 300) n, sr_b bl 300, sc) i).2.2.2) := by rw [hd]
        rw [← e_sc] at hP hD
        exact ihi (by omega) ls _ _ ⟨(lv_sub hl [0, 2, 3] rfl), hP, hD, hS⟩
      · have c3 : ((dh us ps am T fl (S, gv_out us ps am S (sr_a va af 300) n, sr_b bl 300, sc) i).1 i) = true := (bI_nz ((dh us ps am T fl (S, gv_out us ps am S (sr_a va af 300) n, sr_b bl 300, sc) i).1 i)).mp c3
        refine lv_aload_n hx hb dX1_dropHopeless_51 rfl (lv_at hl 3 rfl) ?_
        refine lv_aload_n hx hb dX1_dropHopeless_52 rfl (lv_at hl 0 rfl) ?_
        refine pv (va_runV (As := [.ref ((ad i).1)]) (rest := []) ⟨hx, hb, hml, hown, hts⟩ (cD_canTake l hP (by omega) (hu i (by omega)) (fun k hk => hp i k (by omega) hk)) (cwV 1 hts gD_102 rfl rfl rfl (by decide +kernel) (rmF hR (by decide) (by decide))) (kP_V C (va_recv C.2.2.2.2.1 hP (ci := ciD) (q0 := 0) rfl rfl)) rfl rfl hl.1 rfl (lv_room (Nat.le_of_ble_eq_true rfl)) dX1_dropHopeless_53 ⟨hR.2.2.1, hR.2.2.2⟩) ?_
        refine lv_if_eq (tgt := 67) hx hb dX1_dropHopeless_56 (by decide) (fun c4 => ?_) (fun c4 => ?_)
        · have c4 : (ct (ps i) (am i) (us i) fl (dh us ps am T fl (S, gv_out us ps am S (sr_a va af 300) n, sr_b bl 300, sc) i).2.1 (dh us ps am T fl (S, gv_out us ps am S (sr_a va af 300) n, sr_b bl 300, sc) i).2.2.1) = false := (bI_z (ct (ps i) (am i) (us i) fl (dh us ps am T fl (S, gv_out us ps am S (sr_a va af 300) n, sr_b bl 300, sc) i).2.1 (dh us ps am T fl (S, gv_out us ps am S (sr_a va af 300) n, sr_b bl 300, sc) i).2.2.1)).mp c4
          refine lv_aload_n hx hb dX1_dropHopeless_67 rfl (lv_at hl 3 rfl) ?_
          refine lv_aload_n hx hb dX1_dropHopeless_68 rfl (lv_at hl 0 rfl) ?_
          refine wv (va_runV (As := [.ref ((ad i).1)]) (rest := []) ⟨hx, hb, hml, hown, hts⟩ (cD_drop l hP hD (by omega) (hu i (by omega)) (fun k hk => hp i k (by omega) hk) (fun z => by rw [(hall i (by omega)).2.2.2.2.1]; exact cn_pos (by omega) z)) (cwV 1 hts gD_110 rfl rfl rfl (by decide +kernel) (rmF hR (by decide) (by decide))) (kP_V C (va_recv C.2.2.2.2.1 hP (ci := ciD) (q0 := 0) rfl rfl)) rfl rfl hl.1 rfl (lv_room (Nat.le_of_ble_eq_true rfl)) dX1_dropHopeless_69 ⟨hR.2.2.1, hR.2.2.2⟩) hS (fun _ H locs hq hP hD hS => ?_)
          refine lv_iinc (v := nI (i + 1)) (lv' := [(2, .int (nI (i + 1))), (3, .ref ((ad i).1)), (1, .int (nI sc)), (0, .ref (o 0))]) hx hb dX1_dropHopeless_72 hl (k := 1) rfl (nI_1 i) (by decide) rfl (fun ls hl => ?_)
          refine lv_goto (tgt := 15) hx hb dX1_dropHopeless_75 (by decide) ?_
          have hd : (dh us ps am T fl (S, gv_out us ps am S (sr_a va af 300) n, sr_b bl 300, sc) (i + 1)) = (va_up (dh us ps am T fl (S, gv_out us ps am S (sr_a va af 300) n, sr_b bl 300, sc) i).1 i false, (dh us ps am T fl (S, gv_out us ps am S (sr_a va af 300) n, sr_b bl 300, sc) i).2.1, bk_in (ps i) (am i) (dh us ps am T fl (S, gv_out us ps am S (sr_a va af 300) n, sr_b bl 300, sc) i).2.2.1 (us i), if (dh us ps am T fl (S, gv_out us ps am S (sr_a va af 300) n, sr_b bl 300, sc) i).1 i = true then (dh us ps am T fl (S, gv_out us ps am S (sr_a va af 300) n, sr_b bl 300, sc) i).2.2.2 - 1 else (dh us ps am T fl (S, gv_out us ps am S (sr_a va af 300) n, sr_b bl 300, sc) i).2.2.2) := (if_pos c2).trans (if_neg (fun z => absurd (c4.symm.trans z.2) (by decide)))
          have e_S : (dh us ps am T fl (S, gv_out us ps am S (sr_a va af 300) n, sr_b bl 300, sc) (i + 1)).1 = (va_up (dh us ps am T fl (S, gv_out us ps am S (sr_a va af 300) n, sr_b bl 300, sc) i).1 i false) := by rw [hd]
          rw [← e_S] at hP hD
          have e_af : (dh us ps am T fl (S, gv_out us ps am S (sr_a va af 300) n, sr_b bl 300, sc) (i + 1)).2.1 = (dh us ps am T fl (S, gv_out us ps am S (sr_a va af 300) n, sr_b bl 300, sc) i).2.1 := by rw [hd]
          rw [← e_af] at hP hD
          have e_bl : (dh us ps am T fl (S, gv_out us ps am S (sr_a va af 300) n, sr_b bl 300, sc) (i + 1)).2.2.1 = (bk_in (ps i) (am i) (dh us ps am T fl (S, gv_out us ps am S (sr_a va af 300) n, sr_b bl 300, sc) i).2.2.1 (us i)) := by rw [hd]
          rw [← e_bl] at hP hD
          have e_sc : (dh us ps am T fl (S, gv_out us ps am S (sr_a va af 300) n, sr_b bl 300, sc) (i + 1)).2.2.2 = (if (dh us ps am T fl (S, gv_out us ps am S (sr_a va af 300) n, sr_b bl 300, sc) i).1 i = true then (dh us ps am T fl (S, gv_out us ps am S (sr_a va af 300) n, sr_b bl 300, sc) i).2.2.2 - 1 else (dh us ps am T fl (S, gv_out us ps am S (sr_a va af 300) n, sr_b bl 300, sc) i).2.2.2) := by rw [hd]
          rw [← e_sc] at hP hD
          exact ihi (by omega) ls _ _ ⟨(lv_sub hl [0, 2, 3] rfl), hP, hD, hS⟩
        · have c4 : (ct (ps i) (am i) (us i) fl (dh us ps am T fl (S, gv_out us ps am S (sr_a va af 300) n, sr_b bl 300, sc) i).2.1 (dh us ps am T fl (S, gv_out us ps am S (sr_a va af 300) n, sr_b bl 300, sc) i).2.2.1) = true := (bI_nz (ct (ps i) (am i) (us i) fl (dh us ps am T fl (S, gv_out us ps am S (sr_a va af 300) n, sr_b bl 300, sc) i).2.1 (dh us ps am T fl (S, gv_out us ps am S (sr_a va af 300) n, sr_b bl 300, sc) i).2.2.1)).mp c4
          refine lv_aload_n hx hb dX1_dropHopeless_59 rfl (lv_at hl 3 rfl) ?_
          refine lv_aload_n hx hb dX1_dropHopeless_60 rfl (lv_at hl 0 rfl) ?_
          refine wv (va_runV (As := [.ref ((ad i).1)]) (rest := []) ⟨hx, hb, hml, hown, hts⟩ (cD_take l hP hD (by omega) (hu i (by omega)) (fun k hk => hp i k (by omega) hk)) (cwV 1 hts gD_106 rfl rfl rfl (by decide +kernel) (rmF hR (by decide) (by decide))) (kP_V C (va_recv C.2.2.2.2.1 hP (ci := ciD) (q0 := 0) rfl rfl)) rfl rfl hl.1 rfl (lv_room (Nat.le_of_ble_eq_true rfl)) dX1_dropHopeless_61 ⟨hR.2.2.1, hR.2.2.2⟩) hS (fun _ H locs hq hP hD hS => ?_)
          refine lv_goto (tgt := 72) hx hb dX1_dropHopeless_64 (by decide) ?_
          refine lv_iinc (v := nI (i + 1)) (lv' := [(2, .int (nI (i + 1))), (3, .ref ((ad i).1)), (1, .int (nI sc)), (0, .ref (o 0))]) hx hb dX1_dropHopeless_72 hl (k := 1) rfl (nI_1 i) (by decide) rfl (fun ls hl => ?_)
          refine lv_goto (tgt := 15) hx hb dX1_dropHopeless_75 (by decide) ?_
          have hd : (dh us ps am T fl (S, gv_out us ps am S (sr_a va af 300) n, sr_b bl 300, sc) (i + 1)) = ((dh us ps am T fl (S, gv_out us ps am S (sr_a va af 300) n, sr_b bl 300, sc) i).1, tk_in (ps i) (am i) (dh us ps am T fl (S, gv_out us ps am S (sr_a va af 300) n, sr_b bl 300, sc) i).2.1 (us i), (dh us ps am T fl (S, gv_out us ps am S (sr_a va af 300) n, sr_b bl 300, sc) i).2.2.1, (dh us ps am T fl (S, gv_out us ps am S (sr_a va af 300) n, sr_b bl 300, sc) i).2.2.2) := (if_pos c2).trans (if_pos ⟨c3, c4⟩)
          have e_S : (dh us ps am T fl (S, gv_out us ps am S (sr_a va af 300) n, sr_b bl 300, sc) (i + 1)).1 = (dh us ps am T fl (S, gv_out us ps am S (sr_a va af 300) n, sr_b bl 300, sc) i).1 := by rw [hd]
          rw [← e_S] at hP hD
          have e_af : (dh us ps am T fl (S, gv_out us ps am S (sr_a va af 300) n, sr_b bl 300, sc) (i + 1)).2.1 = (tk_in (ps i) (am i) (dh us ps am T fl (S, gv_out us ps am S (sr_a va af 300) n, sr_b bl 300, sc) i).2.1 (us i)) := by rw [hd]
          rw [← e_af] at hP hD
          have e_bl : (dh us ps am T fl (S, gv_out us ps am S (sr_a va af 300) n, sr_b bl 300, sc) (i + 1)).2.2.1 = (dh us ps am T fl (S, gv_out us ps am S (sr_a va af 300) n, sr_b bl 300, sc) i).2.2.1 := by rw [hd]
          rw [← e_bl] at hP hD
          have e_sc : (dh us ps am T fl (S, gv_out us ps am S (sr_a va af 300) n, sr_b bl 300, sc) (i + 1)).2.2.2 = (dh us ps am T fl (S, gv_out us ps am S (sr_a va af 300) n, sr_b bl 300, sc) i).2.2.2 := by rw [hd]
          rw [← e_sc] at hP hD
          exact ihi (by omega) ls _ _ ⟨(lv_sub hl [0, 2, 3] rfl), hP, hD, hS⟩
    · have c2 : (T i) = false := (bI_z (T i)).mp c2
      refine lv_goto (tgt := 72) hx hb dX1_dropHopeless_41 (by decide) ?_
      refine lv_iinc (v := nI (i + 1)) (lv' := [(2, .int (nI (i + 1))), (3, .ref ((ad i).1)), (1, .int (nI sc)), (0, .ref (o 0))]) hx hb dX1_dropHopeless_72 hl (k := 1) rfl (nI_1 i) (by decide) rfl (fun ls hl => ?_)
      refine lv_goto (tgt := 15) hx hb dX1_dropHopeless_75 (by decide) ?_
      have hd : (dh us ps am T fl (S, gv_out us ps am S (sr_a va af 300) n, sr_b bl 300, sc) (i + 1)) = (dh us ps am T fl (S, gv_out us ps am S (sr_a va af 300) n, sr_b bl 300, sc) i) := if_neg (by rw [c2]; decide)
      have e_S : (dh us ps am T fl (S, gv_out us ps am S (sr_a va af 300) n, sr_b bl 300, sc) (i + 1)).1 = (dh us ps am T fl (S, gv_out us ps am S (sr_a va af 300) n, sr_b bl 300, sc) i).1 := by rw [hd]
      rw [← e_S] at hP hD
      have e_af : (dh us ps am T fl (S, gv_out us ps am S (sr_a va af 300) n, sr_b bl 300, sc) (i + 1)).2.1 = (dh us ps am T fl (S, gv_out us ps am S (sr_a va af 300) n, sr_b bl 300, sc) i).2.1 := by rw [hd]
      rw [← e_af] at hP hD
      have e_bl : (dh us ps am T fl (S, gv_out us ps am S (sr_a va af 300) n, sr_b bl 300, sc) (i + 1)).2.2.1 = (dh us ps am T fl (S, gv_out us ps am S (sr_a va af 300) n, sr_b bl 300, sc) i).2.2.1 := by rw [hd]
      rw [← e_bl] at hP hD
      have e_sc : (dh us ps am T fl (S, gv_out us ps am S (sr_a va af 300) n, sr_b bl 300, sc) (i + 1)).2.2.2 = (dh us ps am T fl (S, gv_out us ps am S (sr_a va af 300) n, sr_b bl 300, sc) i).2.2.2 := by rw [hd]
      rw [← e_sc] at hP hD
      exact ihi (by omega) ls _ _ ⟨(lv_sub hl [0, 2, 3] rfl), hP, hD, hS⟩
theorem fgE (hok : cl_ok us ps am va fl n) (htc : tc = cn T n) (S : Nat → Bool) (af : Nat → Int64) (bl : Nat → Bool) : fg_end us ps am T va fl n (fg us ps am T va fl n 201 (st_s T S n, af, bl, tc)) := fg_all hok 201 _ (fg_start S af bl htc) (by
  show tc < 201
  have q1 := cn_le T n
  have q2 := hok.1
  omega)
set_option maxHeartbeats 1000000 in
set_option maxRecDepth 100000 in
theorem cD_findGreatest (l : Launch) (hP : va_P D vwCl (dW R o K ad va fl af bl n tc sc T S us ps am) H) (hD : va_D A (dW R o K ad va fl af bl n tc sc T S us ps am)) (hok : cl_ok us ps am va fl n) (htc : tc = cn T n) : Met l yX1_findGreatest (tC yX1_findGreatest cX1_findGreatest 2 none) (rmK 2 0 0) (kP D K H [.ref (o 0)]) (qV D A (fun u : Unit => True) (fun u : Unit => dW R o K ad va fl ((fg us ps am T va fl n 201 (st_s T S n, af, bl, tc)).2.1) ((fg us ps am T va fl n 201 (st_s T S n, af, bl, tc)).2.2.1) n tc ((fg us ps am T va fl n 201 (st_s T S n, af, bl, tc)).2.2.2) T ((fg us ps am T va fl n 201 (st_s T S n, af, bl, tc)).1) us ps am)) 0 0 A := by
  refine Met.ofW (cc := cX1_findGreatest) (maxL := 2) (ret := none) (by decide) rfl ?_
  intro p e s m args below meth c s₁ B hml hv
  obtain ⟨rfl, hH, hK, hN, hO⟩ := hv
  have hx := B.exec
  have hb := B.bytes
  have hr := B.returns
  have hts : ∀ w ∈ tT, w.before _ s = true := fun w h => atoms_spec (ws := tC yX1_findGreatest cX1_findGreatest 2 none) B.pre w (List.mem_cons_of_mem _ h)
  have hown : s.vm.findClass RX1 = some m.cls := findClass_of_methodNamed B.named
  have hlocks := B.notSynchronized
  have C : cx RX1 D K p s m _ c cX1_findGreatest := ⟨hx, hb, hown, hts, hK, hN, hO⟩
  have hR : rmOk (headSpec (tC yX1_findGreatest cX1_findGreatest 2 none) (rmK 2 0 0)).room 2 0 0 := ⟨Nat.le_refl _, Nat.le_refl _, Nat.le_refl _, Nat.le_refl _⟩
  subst hH
  have hS : va_S A s.heap s.heap [] := va_S.rf
  have hl := lv_entry ([.ref (o 0)]) (n := 2) (Nat.le_of_ble_eq_true rfl)
  rw [lg_entry_eq]
  generalize (lg_sl ([.ref (o 0)]) ++ List.replicate (2 - (lg_sl ([.ref (o 0)])).length) Slot.unset).toArray = ls at hl ⊢
  have hl : lv_has ls 2 [(0, .ref (o 0))] := hl
  have hn200 : n ≤ 200 := hok.1
  refine lv_aload_n hx hb dX1_findGreatest_0 rfl (lv_at hl 0 rfl) ?_
  refine wv (va_runV (As := []) (rest := []) ⟨hx, hb, hml, hown, hts⟩ (cD_startWithAllThere l hP hD hn200) (cwV 0 hts gD_90 rfl rfl rfl (by decide +kernel) (rmF hR (by decide) (by decide))) (kP_V C (va_recv C.2.2.2.2.1 hP (ci := ciD) (q0 := 0) rfl rfl)) rfl rfl hl.1 rfl (lv_room (Nat.le_of_ble_eq_true rfl)) dX1_findGreatest_1 ⟨hR.2.2.1, hR.2.2.2⟩) hS (fun _ H locs hq hP hD hS => ?_)
  refine lv_iconst (v := nI 0) hx hb dX1_findGreatest_4 (by decide) ?_
  refine lv_istore_n (lv' := [(1, .int (nI 0)), (0, .ref (o 0))]) hx hb dX1_findGreatest_5 rfl hl (by decide) rfl (fun ls hl => ?_)
  refine lpM (U := 201) (pcH := 6) (I := fun k ls H locs => lv_has ls 2 [(1, .int (nI k)), (0, .ref (o 0))] ∧ ∃ σ : DS, va_P D vwCl (dW R o K ad va fl σ.2.1 σ.2.2.1 n tc σ.2.2.2 T σ.1 us ps am) H ∧ va_D A (dW R o K ad va fl σ.2.1 σ.2.2.1 n tc σ.2.2.2 T σ.1 us ps am) ∧ va_S A s.heap H locs ∧ fg_inv us ps am T va fl n σ ∧ fg us ps am T va fl n (201 - k) σ = (fg us ps am T va fl n 201 (st_s T S n, af, bl, tc))) (fun k ls H locs hkk hI ihk => ?_) 0 ls _ _ (Nat.zero_le _) ⟨(lv_sub hl [0, 1] rfl), (st_s T S n, af, bl, tc), hP, hD, hS, fg_start S af bl htc, rfl⟩
  obtain ⟨hl, σ, hP, hD, hS, hI, hF⟩ := hI
  refine lv_iload_n hx hb dX1_findGreatest_6 rfl (lv_at hl 0 rfl) ?_
  refine lv_sipush (v := nI 200) hx hb dX1_findGreatest_7 (by decide) ?_
  refine lv_icmp_gt (tgt := 29) hx hb dX1_findGreatest_10 (by decide) (fun c1 => ?_) (fun c1 => ?_)
  · have c1 : 200 < k := (nI_ltI (by omega) (by omega)).mp c1
    have e : σ = (fg us ps am T va fl n 201 (st_s T S n, af, bl, tc)) := by
      rw [show 201 - k = 0 by omega] at hF
      exact hF
    rw [e] at hP hD
    exact W.vret hx hb hr (fun t ht _ => ⟨⟨(), rfl, trivial, by rw [ht]; exact hP, hD⟩, hS.F ht⟩) hS.2.2 dX1_findGreatest_29
  · have c1 : ¬ 200 < k := fun z9 => c1 ((nI_ltI (by omega) (by omega)).mpr z9)
    rw [show 201 - k = (201 - (k + 1)) + 1 by omega] at hF
    refine lv_aload_n hx hb dX1_findGreatest_13 rfl (lv_at hl 1 rfl) ?_
    refine wi (va_runV (As := []) (rest := []) ⟨hx, hb, hml, hown, hts⟩ (cD_dropHopeless l hP hD hok hI) (cwV 0 hts gD_93 rfl rfl rfl (by decide +kernel) (rmF hR (by decide) (by decide))) (kP_V C (va_recv C.2.2.2.2.1 hP (ci := ciD) (q0 := 0) rfl rfl)) rfl rfl hl.1 rfl (lv_room (Nat.le_of_ble_eq_true rfl)) dX1_findGreatest_14 ⟨hR.2.2.1, hR.2.2.2⟩) hS (fun r _ H locs hq hP hD hS => ?_)
    subst hq
    have hP : va_P D vwCl (dW R o K ad va fl ((swp us ps am T va fl n σ).2.1) ((swp us ps am T va fl n σ).2.2.1) n tc ((swp us ps am T va fl n σ).2.2.2) T ((swp us ps am T va fl n σ).1) us ps am) H := hP
    have hD : va_D A (dW R o K ad va fl ((swp us ps am T va fl n σ).2.1) ((swp us ps am T va fl n σ).2.2.1) n tc ((swp us ps am T va fl n σ).2.2.2) T ((swp us ps am T va fl n σ).1) us ps am) := hD
    refine lv_if_ne (tgt := 23) hx hb dX1_findGreatest_17 (by decide) (fun c2 => ?_) (fun c2 => ?_)
    · have c2 : (decide ((swp us ps am T va fl n σ).2.2.2 < σ.2.2.2)) = true := (bI_nz (decide ((swp us ps am T va fl n σ).2.2.2 < σ.2.2.2))).mp c2
      have c2 := of_decide_eq_true c2
      refine lv_iinc (v := nI (k + 1)) (lv' := [(1, .int (nI (k + 1))), (0, .ref (o 0))]) hx hb dX1_findGreatest_23 hl (k := 0) rfl (nI_1 k) (by decide) rfl (fun ls hl => ?_)
      refine lv_goto (tgt := 6) hx hb dX1_findGreatest_26 (by decide) ?_
      exact ihk (by omega) ls _ _ ⟨(lv_sub hl [0, 1] rfl), (swp us ps am T va fl n σ), hP, hD, hS, (sw_next hok hI).1, (if_pos c2).symm.trans hF⟩
    · have c2 : (decide ((swp us ps am T va fl n σ).2.2.2 < σ.2.2.2)) = false := (bI_z (decide ((swp us ps am T va fl n σ).2.2.2 < σ.2.2.2))).mp c2
      have c2 := of_decide_eq_false c2
      have e : (swp us ps am T va fl n σ) = (fg us ps am T va fl n 201 (st_s T S n, af, bl, tc)) := (if_neg c2).symm.trans hF
      rw [e] at hP hD
      refine lv_goto (tgt := 29) hx hb dX1_findGreatest_20 (by decide) ?_
      exact W.vret hx hb hr (fun t ht _ => ⟨⟨(), rfl, trivial, by rw [ht]; exact hP, hD⟩, hS.F ht⟩) hS.2.2 dX1_findGreatest_29
set_option maxHeartbeats 1000000 in
set_option maxRecDepth 100000 in
theorem cD_solve (l : Launch) (hP : va_P D vwCl (dW R o K ad va fl af bl n tc sc T S us ps am) H) (hD : va_D A (dW R o K ad va fl af bl n tc sc T S us ps am)) (hok : cl_ok us ps am va fl n) (htc : tc = cn T n) : Met l yX1_solve (tC yX1_solve cX1_solve 1 (some .int)) (rmK 3 0 0) (kP D K H [.ref (o 0)]) (qI D A (fun (r : Int32) (u : Unit) => r = nI (fg us ps am T va fl n 201 (st_s T S n, af, bl, tc)).2.2.2) (fun u : Unit => dW R o K ad va fl ((fg us ps am T va fl n 201 (st_s T S n, af, bl, tc)).2.1) ((fg us ps am T va fl n 201 (st_s T S n, af, bl, tc)).2.2.1) n tc ((fg us ps am T va fl n 201 (st_s T S n, af, bl, tc)).2.2.2) T ((fg us ps am T va fl n 201 (st_s T S n, af, bl, tc)).1) us ps am)) 0 0 A := by
  refine Met.ofW (cc := cX1_solve) (maxL := 1) (ret := (some .int)) (by decide) rfl ?_
  intro p e s m args below meth c s₁ B hml hv
  obtain ⟨rfl, hH, hK, hN, hO⟩ := hv
  have hx := B.exec
  have hb := B.bytes
  have hr := B.returns
  have hts : ∀ w ∈ tT, w.before _ s = true := fun w h => atoms_spec (ws := tC yX1_solve cX1_solve 1 (some .int)) B.pre w (List.mem_cons_of_mem _ h)
  have hown : s.vm.findClass RX1 = some m.cls := findClass_of_methodNamed B.named
  have hlocks := B.notSynchronized
  have C : cx RX1 D K p s m _ c cX1_solve := ⟨hx, hb, hown, hts, hK, hN, hO⟩
  have hR : rmOk (headSpec (tC yX1_solve cX1_solve 1 (some .int)) (rmK 3 0 0)).room 3 0 0 := ⟨Nat.le_refl _, Nat.le_refl _, Nat.le_refl _, Nat.le_refl _⟩
  subst hH
  have hS : va_S A s.heap s.heap [] := va_S.rf
  have hl := lv_entry ([.ref (o 0)]) (n := 1) (Nat.le_of_ble_eq_true rfl)
  rw [lg_entry_eq]
  generalize (lg_sl ([.ref (o 0)]) ++ List.replicate (1 - (lg_sl ([.ref (o 0)])).length) Slot.unset).toArray = ls at hl ⊢
  have hl : lv_has ls 1 [(0, .ref (o 0))] := hl
  refine lv_aload_n hx hb dX1_solve_0 rfl (lv_at hl 0 rfl) ?_
  refine wv (va_runV (As := []) (rest := []) ⟨hx, hb, hml, hown, hts⟩ (cD_findGreatest l hP hD hok htc) (cwV 0 hts gD_57 rfl rfl rfl (by decide +kernel) (rmF hR (by decide) (by decide))) (kP_V C (va_recv C.2.2.2.2.1 hP (ci := ciD) (q0 := 0) rfl rfl)) rfl rfl hl.1 rfl (lv_room (Nat.le_of_ble_eq_true rfl)) dX1_solve_1 ⟨hR.2.2.1, hR.2.2.2⟩) hS (fun _ H locs hq hP hD hS => ?_)
  refine lv_aload_n hx hb dX1_solve_4 rfl (lv_at hl 0 rfl) ?_
  refine gD_setCount C hP dX1_solve_5 ?_
  exact W.iret (v := nI (fg us ps am T va fl n 201 (st_s T S n, af, bl, tc)).2.2.2) hx hb hr (fun t ht _ => ⟨⟨_, (), rfl, rfl, by rw [ht]; exact hP, hD⟩, hS.F ht⟩) hS.2.2 dX1_solve_8
set_option maxHeartbeats 1000000 in
set_option maxRecDepth 100000 in
theorem cD_perform_no (l : Launch) (hP : va_P D vwCl (dW R o K ad va fl af bl n tc sc T S us ps am) H) (hD : va_D A (dW R o K ad va fl af bl n tc sc T S us ps am)) (hok : cl_ok us ps am va fl n) (htc : tc = cn T n) (hv : vfB (fg us ps am T va fl n 201 (st_s T S n, af, bl, tc)).2.1 = false) : Met l yX1_perform (tC yX1_perform cX1_perform 1 (some .int)) (rmK 3 0 0) (kP D K H [.ref (o 0)]) (qI D A (fun (r : Int32) (u : Unit) => r = (-1)) (fun u : Unit => dW R o K ad va fl ((fg us ps am T va fl n 201 (st_s T S n, af, bl, tc)).2.1) ((fg us ps am T va fl n 201 (st_s T S n, af, bl, tc)).2.2.1) n tc ((fg us ps am T va fl n 201 (st_s T S n, af, bl, tc)).2.2.2) T ((fg us ps am T va fl n 201 (st_s T S n, af, bl, tc)).1) us ps am)) 0 0 A := by
  refine Met.ofW (cc := cX1_perform) (maxL := 1) (ret := (some .int)) (by decide) rfl ?_
  intro p e s m args below meth c s₁ B hml hv
  obtain ⟨rfl, hH, hK, hN, hO⟩ := hv
  have hx := B.exec
  have hb := B.bytes
  have hr := B.returns
  have hts : ∀ w ∈ tT, w.before _ s = true := fun w h => atoms_spec (ws := tC yX1_perform cX1_perform 1 (some .int)) B.pre w (List.mem_cons_of_mem _ h)
  have hown : s.vm.findClass RX1 = some m.cls := findClass_of_methodNamed B.named
  have hlocks := B.notSynchronized
  have C : cx RX1 D K p s m _ c cX1_perform := ⟨hx, hb, hown, hts, hK, hN, hO⟩
  have hR : rmOk (headSpec (tC yX1_perform cX1_perform 1 (some .int)) (rmK 3 0 0)).room 3 0 0 := ⟨Nat.le_refl _, Nat.le_refl _, Nat.le_refl _, Nat.le_refl _⟩
  subst hH
  have hS : va_S A s.heap s.heap [] := va_S.rf
  have hl := lv_entry ([.ref (o 0)]) (n := 1) (Nat.le_of_ble_eq_true rfl)
  rw [lg_entry_eq]
  generalize (lg_sl ([.ref (o 0)]) ++ List.replicate (1 - (lg_sl ([.ref (o 0)])).length) Slot.unset).toArray = ls at hl ⊢
  have hl : lv_has ls 1 [(0, .ref (o 0))] := hl
  refine lv_aload_n hx hb dX1_perform_0 rfl (lv_at hl 0 rfl) ?_
  refine wv (va_runV (As := []) (rest := []) ⟨hx, hb, hml, hown, hts⟩ (cD_findGreatest l hP hD hok htc) (cwV 0 hts gD_57 rfl rfl rfl (by decide +kernel) (rmF hR (by decide) (by decide))) (kP_V C (va_recv C.2.2.2.2.1 hP (ci := ciD) (q0 := 0) rfl rfl)) rfl rfl hl.1 rfl (lv_room (Nat.le_of_ble_eq_true rfl)) dX1_perform_1 ⟨hR.2.2.1, hR.2.2.2⟩) hS (fun _ H locs hq hP hD hS => ?_)
  refine lv_aload_n hx hb dX1_perform_4 rfl (lv_at hl 0 rfl) ?_
  refine pv (va_runV (As := []) (rest := []) ⟨hx, hb, hml, hown, hts⟩ (cD_valuesFit l hP) (cwV 0 hts gD_69 rfl rfl rfl (by decide +kernel) (rmF hR (by decide) (by decide))) (kP_V C (va_recv C.2.2.2.2.1 hP (ci := ciD) (q0 := 0) rfl rfl)) rfl rfl hl.1 rfl (lv_room (Nat.le_of_ble_eq_true rfl)) dX1_perform_5 ⟨hR.2.2.1, hR.2.2.2⟩) ?_
  refine lv_if_ne (tgt := 13) hx hb dX1_perform_8 (by decide) (fun c1 => ?_) (fun c1 => ?_)
  · have c1 : (vfB (fg us ps am T va fl n 201 (st_s T S n, af, bl, tc)).2.1) = true := (bI_nz (vfB (fg us ps am T va fl n 201 (st_s T S n, af, bl, tc)).2.1)).mp c1
    exact absurd (c1.symm.trans hv) (by decide)
  · have c1 : (vfB (fg us ps am T va fl n 201 (st_s T S n, af, bl, tc)).2.1) = false := (bI_z (vfB (fg us ps am T va fl n 201 (st_s T S n, af, bl, tc)).2.1)).mp c1
    refine lv_iconst (v := (-1)) hx hb dX1_perform_11 (by decide) ?_
    exact W.iret (v := (-1)) hx hb hr (fun t ht _ => ⟨⟨_, (), rfl, rfl, by rw [ht]; exact hP, hD⟩, hS.F ht⟩) hS.2.2 dX1_perform_12
set_option maxHeartbeats 1000000 in
set_option maxRecDepth 100000 in
theorem cD_perform (l : Launch) (hP : va_P D vwCl (dW R o K ad va fl af bl n tc sc T S us ps am) H) (hD : va_D A (dW R o K ad va fl af bl n tc sc T S us ps am)) (hok : cl_ok us ps am va fl n) (htc : tc = cn T n) (hv : vfB (fg us ps am T va fl n 201 (st_s T S n, af, bl, tc)).2.1 = true) : Met l yX1_perform (tC yX1_perform cX1_perform 1 (some .int)) (rmK 3 0 0) (kP D K H [.ref (o 0)]) (qI D A (fun (r : Int32) (u : Unit) => r = nI (fg us ps am T va fl n 201 (st_s T S n, af, bl, tc)).2.2.2) (fun u : Unit => dW R o K ad (va_cpy (fg us ps am T va fl n 201 (st_s T S n, af, bl, tc)).2.1 va 0 0 300) fl ((fg us ps am T va fl n 201 (st_s T S n, af, bl, tc)).2.1) ((fg us ps am T va fl n 201 (st_s T S n, af, bl, tc)).2.2.1) n (tc - (fg us ps am T va fl n 201 (st_s T S n, af, bl, tc)).2.2.2) ((fg us ps am T va fl n 201 (st_s T S n, af, bl, tc)).2.2.2) (d_en (fg us ps am T va fl n 201 (st_s T S n, af, bl, tc)).1 T n) ((fg us ps am T va fl n 201 (st_s T S n, af, bl, tc)).1) us ps am)) 0 0 A := by
  refine Met.ofW (cc := cX1_perform) (maxL := 1) (ret := (some .int)) (by decide) rfl ?_
  intro p e s m args below meth c s₁ B hml hv
  obtain ⟨rfl, hH, hK, hN, hO⟩ := hv
  have hx := B.exec
  have hb := B.bytes
  have hr := B.returns
  have hts : ∀ w ∈ tT, w.before _ s = true := fun w h => atoms_spec (ws := tC yX1_perform cX1_perform 1 (some .int)) B.pre w (List.mem_cons_of_mem _ h)
  have hown : s.vm.findClass RX1 = some m.cls := findClass_of_methodNamed B.named
  have hlocks := B.notSynchronized
  have C : cx RX1 D K p s m _ c cX1_perform := ⟨hx, hb, hown, hts, hK, hN, hO⟩
  have hR : rmOk (headSpec (tC yX1_perform cX1_perform 1 (some .int)) (rmK 3 0 0)).room 3 0 0 := ⟨Nat.le_refl _, Nat.le_refl _, Nat.le_refl _, Nat.le_refl _⟩
  subst hH
  have hS : va_S A s.heap s.heap [] := va_S.rf
  have hl := lv_entry ([.ref (o 0)]) (n := 1) (Nat.le_of_ble_eq_true rfl)
  rw [lg_entry_eq]
  generalize (lg_sl ([.ref (o 0)]) ++ List.replicate (1 - (lg_sl ([.ref (o 0)])).length) Slot.unset).toArray = ls at hl ⊢
  have hl : lv_has ls 1 [(0, .ref (o 0))] := hl
  have hsc : (fg us ps am T va fl n 201 (st_s T S n, af, bl, tc)).2.2.2 ≤ tc := by
    have q := fgE hok htc S af bl
    have q2 := cn_mono (T := T) (fun k hk h => q.1.1 k hk h)
    rw [q.2.2.1]
    omega
  refine lv_aload_n hx hb dX1_perform_0 rfl (lv_at hl 0 rfl) ?_
  refine wv (va_runV (As := []) (rest := []) ⟨hx, hb, hml, hown, hts⟩ (cD_findGreatest l hP hD hok htc) (cwV 0 hts gD_57 rfl rfl rfl (by decide +kernel) (rmF hR (by decide) (by decide))) (kP_V C (va_recv C.2.2.2.2.1 hP (ci := ciD) (q0 := 0) rfl rfl)) rfl rfl hl.1 rfl (lv_room (Nat.le_of_ble_eq_true rfl)) dX1_perform_1 ⟨hR.2.2.1, hR.2.2.2⟩) hS (fun _ H locs hq hP hD hS => ?_)
  refine lv_aload_n hx hb dX1_perform_4 rfl (lv_at hl 0 rfl) ?_
  refine pv (va_runV (As := []) (rest := []) ⟨hx, hb, hml, hown, hts⟩ (cD_valuesFit l hP) (cwV 0 hts gD_69 rfl rfl rfl (by decide +kernel) (rmF hR (by decide) (by decide))) (kP_V C (va_recv C.2.2.2.2.1 hP (ci := ciD) (q0 := 0) rfl rfl)) rfl rfl hl.1 rfl (lv_room (Nat.le_of_ble_eq_true rfl)) dX1_perform_5 ⟨hR.2.2.1, hR.2.2.2⟩) ?_
  refine lv_if_ne (tgt := 13) hx hb dX1_perform_8 (by decide) (fun c1 => ?_) (fun c1 => ?_)
  · have c1 : (vfB (fg us ps am T va fl n 201 (st_s T S n, af, bl, tc)).2.1) = true := (bI_nz (vfB (fg us ps am T va fl n 201 (st_s T S n, af, bl, tc)).2.1)).mp c1
    refine lv_aload_n hx hb dX1_perform_13 rfl (lv_at hl 0 rfl) ?_
    refine gD_after C hP dX1_perform_14 ?_
    refine lv_iconst (v := nI 0) hx hb dX1_perform_17 (by decide) ?_
    refine lv_aload_n hx hb dX1_perform_18 rfl (lv_at hl 0 rfl) ?_
    refine gD_values C hP dX1_perform_19 ?_
    refine lv_iconst (v := nI 0) hx hb dX1_perform_22 (by decide) ?_
    refine lv_sipush (v := nI 300) hx hb dX1_perform_23 (by decide) ?_
    refine cpD C (hml.trans hl.1.symm) hP hD hS (Nat.le_trans (by decide) hR.1) (Nat.le_trans (by decide) hR.2.1) dX1_perform_26 (fun H locs hP hD hS => ?_)
    refine lv_aload_n hx hb dX1_perform_29 rfl (lv_at hl 0 rfl) ?_
    refine wv (va_runV (As := []) (rest := []) ⟨hx, hb, hml, hown, hts⟩ (cD_endItemsOfSet l hP hD hok.1 hsc) (cwV 0 hts gD_79 rfl rfl rfl (by decide +kernel) (rmF hR (by decide) (by decide))) (kP_V C (va_recv C.2.2.2.2.1 hP (ci := ciD) (q0 := 0) rfl rfl)) rfl rfl hl.1 rfl (lv_room (Nat.le_of_ble_eq_true rfl)) dX1_perform_30 ⟨hR.2.2.1, hR.2.2.2⟩) hS (fun _ H locs hq hP hD hS => ?_)
    refine lv_aload_n hx hb dX1_perform_33 rfl (lv_at hl 0 rfl) ?_
    refine gD_setCount C hP dX1_perform_34 ?_
    exact W.iret (v := nI (fg us ps am T va fl n 201 (st_s T S n, af, bl, tc)).2.2.2) hx hb hr (fun t ht _ => ⟨⟨_, (), rfl, rfl, by rw [ht]; exact hP, hD⟩, hS.F ht⟩) hS.2.2 dX1_perform_37
  · have c1 : (vfB (fg us ps am T va fl n 201 (st_s T S n, af, bl, tc)).2.1) = false := (bI_z (vfB (fg us ps am T va fl n 201 (st_s T S n, af, bl, tc)).2.1)).mp c1
    exact absurd (c1.symm.trans hv) (by decide)
end MD3
