/-! GRIDDESK: item -/
section SRI
variable {p : Program} {l : Launch} {e : Env} {Rm : Room} {s : State} {m : MethodId} {args : Array Value} {below : List Frame} {meth : Method} {c : Code} {H : Heap} {locs : List Loc} {cells slots : Nat} {Q : State → Prop} {cc : ByteArray} {pc : Nat} {ls : Array Slot} {rest : List Value} {own : String} {D : va_G} {A : Nat → Prop} {H0 : Heap}
variable {R : va_W} {o : Nat → Nat} {K : Nat → ClassId} {ad : Nat → Nat × Nat × Nat} {va fl af : Nat → Int64} {bl : Nat → Bool} {n nc tc sc : Nat} {T S : Nat → Bool} {us : Nat → Nat} {ps : Nat → Nat → Nat} {am : Nat → Nat → Int64} {im : Nat → Option Nat}
theorem sR_items {v : Nat} (C : cx own D K p s m args c cc) (hn : n < 200) (hv : v = (ad n).1) (hP : va_P D vwCl (dR R o K va fl af bl im nc tc sc (it_w K ad T S us ps am (n + 1))) H) (hD : va_D A (dR R o K va fl af bl im nc tc sc (it_w K ad T S us ps am (n + 1)))) (hS : va_S A H0 H locs) (hdg : decode cc pc = .ok (.aastore, 1)) (kk : ∀ (H1 : Heap) (locs1 : List Loc), va_P D vwCl (dR R o K va fl af bl (va_up im n (some v)) nc tc sc (it_w K ad T S us ps am (n + 1))) H1 → va_D A (dR R o K va fl af bl (va_up im n (some v)) nc tc sc (it_w K ad T S us ps am (n + 1))) → va_S A H0 H1 locs1 → W p l e Rm s m args below meth c H1 locs1 cells slots Q (F0 m (pc + 1) ls rest)) : W p l e Rm s m args below meth c H locs cells slots Q (F0 m pc ls (.ref v :: .int (nI n) :: .ref (o 3) :: rest)) := by
  subst hv
  have he : (dR R o K va fl af bl im nc tc sc (it_w K ad T S us ps am (n + 1)))[6 + (R.length + 3 * n)]? = some (i_ob (ad n) (T n) (S n) (us n)) := by
    refine (dW_pos (3 * n) _ _ _ _ _ _ _).trans ?_
    rw [it_get (by omega), it_c0]
  refine va_astq (r := (RX0, TX0, 5)) C.1 C.2.1 C.2.2.2.2.1 hP hD hS 3 3 (6 + (R.length + 3 * n)) ciI rfl rfl he rfl (vp_in_nI hn (by decide)) hdg (fun H1 locs1 h1 h2 h3 => ?_)
  rw [nI_clamp (by omega)] at h1 h2
  exact kk H1 locs1 h1 h2 h3
end SRI
section DIT
variable {D : va_G} {K : Nat → ClassId} {H : Heap} {A : Nat → Prop} {R : va_W} {o : Nat → Nat} {ad : Nat → Nat × Nat × Nat} {va fl af : Nat → Int64} {bl : Nat → Bool} {n tc sc : Nat} {T S : Nat → Bool} {us : Nat → Nat} {ps : Nat → Nat → Nat} {am : Nat → Nat → Int64}
set_option maxHeartbeats 1000000 in
set_option maxRecDepth 100000 in
theorem cD_item_no (l : Launch) (hP : va_P D vwCl (dW R o K ad va fl af bl n tc sc T S us ps am) H) (h : 200 ≤ n) (h2 : n ≤ 200) : Met l yX1_item (tC yX1_item cX1_item 1 (some .int)) (rmK 0 0 0) (kP D K H [.ref (o 0)]) (k2_QcV (.int (-1))) 0 0 (fun _ => False) := by
  refine Met.ofW (cc := cX1_item) (maxL := 1) (ret := (some .int)) (by decide) rfl ?_
  intro p e s m args below meth c s₁ B hml hv
  obtain ⟨rfl, hH, hK, hN, hO⟩ := hv
  have hx := B.exec
  have hb := B.bytes
  have hr := B.returns
  have hts : ∀ w ∈ tT, w.before _ s = true := fun w h => atoms_spec (ws := tC yX1_item cX1_item 1 (some .int)) B.pre w (List.mem_cons_of_mem _ h)
  have hown : s.vm.findClass RX1 = some m.cls := findClass_of_methodNamed B.named
  have hlocks := B.notSynchronized
  have C : cx RX1 D K p s m _ c cX1_item := ⟨hx, hb, hown, hts, hK, hN, hO⟩
  have hR : rmOk (headSpec (tC yX1_item cX1_item 1 (some .int)) (rmK 0 0 0)).room 0 0 0 := ⟨Nat.le_refl _, Nat.le_refl _, Nat.le_refl _, Nat.le_refl _⟩
  subst hH
  have hl := lv_entry ([.ref (o 0)]) (n := 1) (Nat.le_of_ble_eq_true rfl)
  rw [lg_entry_eq]
  generalize (lg_sl ([.ref (o 0)]) ++ List.replicate (1 - (lg_sl ([.ref (o 0)])).length) Slot.unset).toArray = ls at hl ⊢
  have hl : lv_has ls 1 [(0, .ref (o 0))] := hl
  refine lv_aload_n hx hb dX1_item_0 rfl (lv_at hl 0 rfl) ?_
  refine gD_itemCount C hP dX1_item_1 ?_
  refine lv_sipush (v := nI 200) hx hb dX1_item_4 (by decide) ?_
  refine lv_icmp_lt (tgt := 12) hx hb dX1_item_7 (by decide) (fun c1 => ?_) (fun c1 => ?_)
  · have c1 : n < 200 := (nI_ltI (by omega) (by omega)).mp c1
    exact absurd c1 (by omega)
  · have c1 : ¬ n < 200 := fun z9 => c1 ((nI_ltI (by omega) (by omega)).mpr z9)
    refine lv_iconst (v := (-1)) hx hb dX1_item_10 (by decide) ?_
    exact W.iret (v := (-1)) hx hb hr (fun t ht _ => ⟨rfl, ht⟩) (fun q h => by cases h) dX1_item_11
set_option maxHeartbeats 1000000 in
set_option maxRecDepth 100000 in
theorem cD_item (l : Launch) (hP : va_P D vwCl (dW R o K ad va fl af bl n tc sc T S us ps am) H) (hD : va_D A (dW R o K ad va fl af bl n tc sc T S us ps am)) (hA : ∀ q, H.size ≤ q → A q) (h : n < 200) : Met l yX1_item (tC yX1_item cX1_item 1 (some .int)) (rmK 2 3 37) (kP D K H [.ref (o 0)]) (qI D A (fun (r : Int32) (u : (Nat × Nat × Nat)) => r = nI n) (fun u : (Nat × Nat × Nat) => dW R o K (va_up ad n u) va fl af bl (n + 1) (tc + 1) sc (va_up T n true) (va_up S n false) (va_up us n 0) (va_up ps n (fun _ => 0)) (va_up am n (fun _ => 0)))) 3 37 A := by
  refine Met.ofW (cc := cX1_item) (maxL := 1) (ret := (some .int)) (by decide) rfl ?_
  intro p e s m args below meth c s₁ B hml hv
  obtain ⟨rfl, hH, hK, hN, hO⟩ := hv
  have hx := B.exec
  have hb := B.bytes
  have hr := B.returns
  have hts : ∀ w ∈ tT, w.before _ s = true := fun w h => atoms_spec (ws := tC yX1_item cX1_item 1 (some .int)) B.pre w (List.mem_cons_of_mem _ h)
  have hown : s.vm.findClass RX1 = some m.cls := findClass_of_methodNamed B.named
  have hlocks := B.notSynchronized
  have C : cx RX1 D K p s m _ c cX1_item := ⟨hx, hb, hown, hts, hK, hN, hO⟩
  have hR : rmOk (headSpec (tC yX1_item cX1_item 1 (some .int)) (rmK 2 3 37)).room 2 3 37 := ⟨Nat.le_refl _, Nat.le_refl _, Nat.le_refl _, Nat.le_refl _⟩
  subst hH
  have hS : va_S A s.heap s.heap [] := va_S.rf
  have hl := lv_entry ([.ref (o 0)]) (n := 1) (Nat.le_of_ble_eq_true rfl)
  rw [lg_entry_eq]
  generalize (lg_sl ([.ref (o 0)]) ++ List.replicate (1 - (lg_sl ([.ref (o 0)])).length) Slot.unset).toArray = ls at hl ⊢
  have hl : lv_has ls 1 [(0, .ref (o 0))] := hl
  refine lv_aload_n hx hb dX1_item_0 rfl (lv_at hl 0 rfl) ?_
  refine gD_itemCount C hP dX1_item_1 ?_
  refine lv_sipush (v := nI 200) hx hb dX1_item_4 (by decide) ?_
  refine lv_icmp_lt (tgt := 12) hx hb dX1_item_7 (by decide) (fun c1 => ?_) (fun c1 => ?_)
  · have c1 : n < 200 := (nI_ltI (by omega) (by omega)).mp c1
    refine lv_aload_n hx hb dX1_item_12 rfl (lv_at hl 0 rfl) ?_
    refine gD_items C hP dX1_item_13 ?_
    refine lv_aload_n hx hb dX1_item_16 rfl (lv_at hl 0 rfl) ?_
    refine gD_itemCount C hP dX1_item_17 ?_
    refine va_new (ci := ciI) (fs := [.null, .null, .int (nI 0), .int (bI false), .int (bI false)]) (C := RX0) (T := TX0) (N := 5) hx hb hts in_I tyX0 tyX0_ok hown (hts _ (by decide +kernel : Cond.classLink RX1 16 RX0 ∈ tT)) (hts _ (by decide +kernel : Cond.instantiable RX0 5 ∈ tT)) (hts _ (by decide +kernel : Cond.initialized RX0 ∈ tT)) hK hP hD hS hA rfl (fun j hj => by rcases (show j = 0 ∨ j = 1 ∨ j = 2 ∨ j = 3 ∨ j = 4 by omega) with rfl | rfl | rfl | rfl | rfl <;> rfl) (Nat.le_of_ble_eq_true rfl) (Nat.le_of_ble_eq_true rfl) dX1_item_20 (fun q H hP hD hS => ?_)
    refine lv_dup hx hb dX1_item_23 rfl ?_
    refine wv (va_runIN (As := []) (rest := [.ref q, .int (nI n), .ref (o 3)]) ⟨hx, hb, hml, hown, hts⟩ (cI_init l hP hD (fun x h9 => hA x (Nat.le_trans hS.1 h9))) ⟨va_cnB 0 hts gD_41.1 rfl rfl rfl (C.2.2.2.2.2.1 _ gD_41.2.1) (hts _ gD_41.2.2.1) (by decide +kernel) (rmF hR (by decide) (by decide)), rfl, hts _ gD_41.2.2.2⟩ (kP_S C) rfl rfl hl.1 rfl (lv_room (Nat.le_of_ble_eq_true rfl)) dX1_item_24 ⟨Nat.le_of_ble_eq_true rfl, Nat.le_of_ble_eq_true rfl⟩) hS (fun u H locs hq hP hD hS => ?_)
    have e1 : dW R o K ad va fl af bl n tc sc T S us ps am ++ [i_ob (q, u.1, u.2) true false 0, i_pc K (q, u.1, u.2) (fun _ => 0), i_ac K (q, u.1, u.2) (fun _ => 0)] = dR R o K va fl af bl (itf n ad) n tc sc (it_w K (va_up ad n (q, u.1, u.2)) (va_up T n true) (va_up S n false) (va_up us n 0) (va_up ps n (fun _ => 0)) (va_up am n (fun _ => 0)) (n + 1)) := by
      rw [← it_push]
      unfold dW dR
      simp only [List.cons_append, List.append_assoc]
    rw [e1] at hP hD
    refine sR_items C h (by rw [va_up_self]) hP hD hS dX1_item_27 (fun H locs hP hD hS => ?_)
    refine lv_aload_n hx hb dX1_item_28 rfl (lv_at hl 0 rfl) ?_
    refine lv_dup hx hb dX1_item_29 rfl ?_
    refine gR_itemCount C hP dX1_item_30 ?_
    refine lv_iconst (v := nI 1) hx hb dX1_item_33 (by decide) ?_
    refine lv_iadd hx hb dX1_item_34 ?_
    refine tp_i (y := nI (n + 1)) (nI_add n 1) ?_
    refine pR_itemCount C hP hD hS dX1_item_35 (fun H locs hP hD hS => ?_)
    refine lv_aload_n hx hb dX1_item_38 rfl (lv_at hl 0 rfl) ?_
    refine lv_dup hx hb dX1_item_39 rfl ?_
    refine gR_thereCount C hP dX1_item_40 ?_
    refine lv_iconst (v := nI 1) hx hb dX1_item_43 (by decide) ?_
    refine lv_iadd hx hb dX1_item_44 ?_
    refine tp_i (y := nI (tc + 1)) (nI_add tc 1) ?_
    refine pR_thereCount C hP hD hS dX1_item_45 (fun H locs hP hD hS => ?_)
    refine lv_aload_n hx hb dX1_item_48 rfl (lv_at hl 0 rfl) ?_
    refine gR_itemCount C hP dX1_item_49 ?_
    refine lv_iconst (v := nI 1) hx hb dX1_item_52 (by decide) ?_
    refine lv_isub hx hb dX1_item_53 ?_
    refine tp_i (y := nI ((n + 1) - 1)) (pk_sub (by omega)) ?_
    refine tp_i (y := nI n) (congrArg nI (Nat.add_sub_cancel n 1)) ?_
    have e2 : dW R o K (va_up ad n (q, u.1, u.2)) va fl af bl (n + 1) (tc + 1) sc (va_up T n true) (va_up S n false) (va_up us n 0) (va_up ps n (fun _ => 0)) (va_up am n (fun _ => 0)) = dR R o K va fl af bl (va_up (itf n ad) n (some q)) (n + 1) (tc + 1) sc (it_w K (va_up ad n (q, u.1, u.2)) (va_up T n true) (va_up S n false) (va_up us n 0) (va_up ps n (fun _ => 0)) (va_up am n (fun _ => 0)) (n + 1)) := by
      unfold dW
      rw [← itf_push (a := (q, u.1, u.2))]
    rw [← e2] at hP hD
    exact W.iret (v := nI n) hx hb hr (fun t ht _ => ⟨⟨_, (q, u.1, u.2), rfl, rfl, by rw [ht]; exact hP, hD⟩, hS.F ht⟩) hS.2.2 dX1_item_54
  · have c1 : ¬ n < 200 := fun z9 => c1 ((nI_ltI (by omega) (by omega)).mpr z9)
    exact absurd h c1
end DIT
