/-! GRIDDESK: the methods that look, and those that write without a search -/
/-- no item of that number is there -/
def nT (n : Nat) (T : Nat → Bool) (x : Int32) : Prop := x < 0 ∨ nI n ≤ x ∨ ∃ i, i < n ∧ x = nI i ∧ T i = false
theorem nT_or (n : Nat) (T : Nat → Bool) (hn : n ≤ 200) (x : Int32) : nT n T x ∨ ∃ i, i < n ∧ x = nI i ∧ T i = true := by
  rcases pk_ix x (n := n) (by omega) with h | h | ⟨i, hi, e⟩
  · exact Or.inl (Or.inl h)
  · exact Or.inl (Or.inr (Or.inl h))
  · cases ht : T i with
    | true => exact Or.inr ⟨i, hi, e, ht⟩
    | false => exact Or.inl (Or.inr (Or.inr ⟨i, hi, e, ht⟩))
section MD1
variable {D : va_G} {K : Nat → ClassId} {H : Heap} {A : Nat → Prop} {R : va_W} {o : Nat → Nat} {ad : Nat → Nat × Nat × Nat} {va fl af : Nat → Int64} {bl : Nat → Bool} {n tc sc : Nat} {T S : Nat → Bool} {us : Nat → Nat} {ps : Nat → Nat → Nat} {am : Nat → Nat → Int64}
set_option maxHeartbeats 1000000 in
set_option maxRecDepth 100000 in
theorem cD_isPosition (l : Launch)  (x : Int32) : Met l yX1_isPosition (tC yX1_isPosition cX1_isPosition 1 (some .boolean)) (rmK 0 0 0) (kP D K H [.int x]) (k2_QcV (.int (bI (isP x)))) 0 0 (fun _ => False) := by
  refine Met.ofW (cc := cX1_isPosition) (maxL := 1) (ret := (some .boolean)) (by decide) rfl ?_
  intro p e s m args below meth c s₁ B hml hv
  obtain ⟨rfl, hH, hK, hN, hO⟩ := hv
  have hx := B.exec
  have hb := B.bytes
  have hr := B.returns
  have hts : ∀ w ∈ tT, w.before _ s = true := fun w h => atoms_spec (ws := tC yX1_isPosition cX1_isPosition 1 (some .boolean)) B.pre w (List.mem_cons_of_mem _ h)
  have hown : s.vm.findClass RX1 = some m.cls := findClass_of_methodNamed B.named
  have hlocks := B.notSynchronized
  have C : cx RX1 D K p s m _ c cX1_isPosition := ⟨hx, hb, hown, hts, hK, hN, hO⟩
  have hR : rmOk (headSpec (tC yX1_isPosition cX1_isPosition 1 (some .boolean)) (rmK 0 0 0)).room 0 0 0 := ⟨Nat.le_refl _, Nat.le_refl _, Nat.le_refl _, Nat.le_refl _⟩
  subst hH
  have hl := lv_entry ([.int x]) (n := 1) (Nat.le_of_ble_eq_true rfl)
  rw [lg_entry_eq]
  generalize (lg_sl ([.int x]) ++ List.replicate (1 - (lg_sl ([.int x])).length) Slot.unset).toArray = ls at hl ⊢
  have hl : lv_has ls 1 [(0, .int x)] := hl
  refine lv_iload_n hx hb dX1_isPosition_0 rfl (lv_at hl 0 rfl) ?_
  refine lv_if_lt (tgt := 15) hx hb dX1_isPosition_1 (by decide) (fun c1 => ?_) (fun c1 => ?_)
  · refine lv_iconst (v := nI 0) hx hb dX1_isPosition_15 (by decide) ?_
    exact W.zret (v := nI 0) hx hb hr (by decide) (fun t ht _ => ⟨rt0 (decide_eq_false (fun z => z.1 c1)), ht⟩) (fun q h => by cases h) dX1_isPosition_16
  · refine lv_iload_n hx hb dX1_isPosition_4 rfl (lv_at hl 0 rfl) ?_
    refine lv_sipush (v := nI 300) hx hb dX1_isPosition_5 (by decide) ?_
    refine lv_icmp_ge (tgt := 15) hx hb dX1_isPosition_8 (by decide) (fun c2 => ?_) (fun c2 => ?_)
    · refine lv_iconst (v := nI 0) hx hb dX1_isPosition_15 (by decide) ?_
      exact W.zret (v := nI 0) hx hb hr (by decide) (fun t ht _ => ⟨rt0 (decide_eq_false (fun z => z.2 c2)), ht⟩) (fun q h => by cases h) dX1_isPosition_16
    · refine lv_iconst (v := nI 1) hx hb dX1_isPosition_11 (by decide) ?_
      refine lv_goto (tgt := 16) hx hb dX1_isPosition_12 (by decide) ?_
      exact W.zret (v := nI 1) hx hb hr (by decide) (fun t ht _ => ⟨rt1 (decide_eq_true ⟨c1, c2⟩), ht⟩) (fun q h => by cases h) dX1_isPosition_16
set_option maxHeartbeats 1000000 in
set_option maxRecDepth 100000 in
theorem cD_isValue (l : Launch)  (v : Int64) : Met l yX1_isValue (tC yX1_isValue cX1_isValue 2 (some .boolean)) (rmK 0 0 0) (kP D K H [.long v]) (k2_QcV (.int (bI (isV v)))) 0 0 (fun _ => False) := by
  refine Met.ofW (cc := cX1_isValue) (maxL := 2) (ret := (some .boolean)) (by decide) rfl ?_
  intro p e s m args below meth c s₁ B hml hv
  obtain ⟨rfl, hH, hK, hN, hO⟩ := hv
  have hx := B.exec
  have hb := B.bytes
  have hr := B.returns
  have hts : ∀ w ∈ tT, w.before _ s = true := fun w h => atoms_spec (ws := tC yX1_isValue cX1_isValue 2 (some .boolean)) B.pre w (List.mem_cons_of_mem _ h)
  have hown : s.vm.findClass RX1 = some m.cls := findClass_of_methodNamed B.named
  have hlocks := B.notSynchronized
  have C : cx RX1 D K p s m _ c cX1_isValue := ⟨hx, hb, hown, hts, hK, hN, hO⟩
  have hR : rmOk (headSpec (tC yX1_isValue cX1_isValue 2 (some .boolean)) (rmK 0 0 0)).room 0 0 0 := ⟨Nat.le_refl _, Nat.le_refl _, Nat.le_refl _, Nat.le_refl _⟩
  subst hH
  have hl := lv_entry ([.long v]) (n := 2) (Nat.le_of_ble_eq_true rfl)
  rw [lg_entry_eq]
  generalize (lg_sl ([.long v]) ++ List.replicate (2 - (lg_sl ([.long v])).length) Slot.unset).toArray = ls at hl ⊢
  have hl : lv_has ls 2 [(0, .long v)] := hl
  refine lv_lload_n hx hb dX1_isValue_0 rfl (lv_at hl 0 rfl) ?_
  refine lv_ldc2 (v := (-1000000000000000000)) hx hb hown (hts _ (by decide +kernel : Cond.constantLong RX1 86 (-1000000000000000000) ∈ tT)) dX1_isValue_1 ?_
  refine W.lcmp hx hb dX1_isValue_4 ?_
  refine lv_if_lt (tgt := 20) hx hb dX1_isValue_5 (by decide) (fun c1 => ?_) (fun c1 => ?_)
  · have c1 : v < (-1000000000000000000) := (lg_cmp_lt v (-1000000000000000000)).mp c1
    refine lv_iconst (v := nI 0) hx hb dX1_isValue_20 (by decide) ?_
    exact W.zret (v := nI 0) hx hb hr (by decide) (fun t ht _ => ⟨rt0 (decide_eq_false (fun z => z.1 c1)), ht⟩) (fun q h => by cases h) dX1_isValue_21
  · have c1 : ¬ v < (-1000000000000000000) := fun z9 => c1 ((lg_cmp_lt v (-1000000000000000000)).mpr z9)
    refine lv_lload_n hx hb dX1_isValue_8 rfl (lv_at hl 0 rfl) ?_
    refine lv_ldc2 (v := 1000000000000000000) hx hb hown (hts _ (by decide +kernel : Cond.constantLong RX1 88 1000000000000000000 ∈ tT)) dX1_isValue_9 ?_
    refine W.lcmp hx hb dX1_isValue_12 ?_
    refine lv_if_gt (tgt := 20) hx hb dX1_isValue_13 (by decide) (fun c2 => ?_) (fun c2 => ?_)
    · have c2 : 1000000000000000000 < v := (lg_cmp_gt v 1000000000000000000).mp c2
      refine lv_iconst (v := nI 0) hx hb dX1_isValue_20 (by decide) ?_
      exact W.zret (v := nI 0) hx hb hr (by decide) (fun t ht _ => ⟨rt0 (decide_eq_false (fun z => z.2 c2)), ht⟩) (fun q h => by cases h) dX1_isValue_21
    · have c2 : ¬ 1000000000000000000 < v := fun z9 => c2 ((lg_cmp_gt v 1000000000000000000).mpr z9)
      refine lv_iconst (v := nI 1) hx hb dX1_isValue_16 (by decide) ?_
      refine lv_goto (tgt := 21) hx hb dX1_isValue_17 (by decide) ?_
      exact W.zret (v := nI 1) hx hb hr (by decide) (fun t ht _ => ⟨rt1 (decide_eq_true ⟨c1, c2⟩), ht⟩) (fun q h => by cases h) dX1_isValue_21
set_option maxHeartbeats 1000000 in
set_option maxRecDepth 100000 in
theorem cD_itemEver (l : Launch) (hP : va_P D vwCl (dW R o K ad va fl af bl n tc sc T S us ps am) H) (hn200 : n ≤ 200) {i : Nat} (hi : i < n) : Met l yX1_itemEver (tC yX1_itemEver cX1_itemEver 2 (some (.object "GridDesk$Item"))) (rmK 0 0 0) (kP D K H [.ref (o 0), .int (nI i)]) (k2_QcV (.ref (ad i).1)) 0 0 (fun _ => False) := by
  refine Met.ofW (cc := cX1_itemEver) (maxL := 2) (ret := (some (.object "GridDesk$Item"))) (by decide) rfl ?_
  intro p e s m args below meth c s₁ B hml hv
  obtain ⟨rfl, hH, hK, hN, hO⟩ := hv
  have hx := B.exec
  have hb := B.bytes
  have hr := B.returns
  have hts : ∀ w ∈ tT, w.before _ s = true := fun w h => atoms_spec (ws := tC yX1_itemEver cX1_itemEver 2 (some (.object "GridDesk$Item"))) B.pre w (List.mem_cons_of_mem _ h)
  have hown : s.vm.findClass RX1 = some m.cls := findClass_of_methodNamed B.named
  have hlocks := B.notSynchronized
  have C : cx RX1 D K p s m _ c cX1_itemEver := ⟨hx, hb, hown, hts, hK, hN, hO⟩
  have hR : rmOk (headSpec (tC yX1_itemEver cX1_itemEver 2 (some (.object "GridDesk$Item"))) (rmK 0 0 0)).room 0 0 0 := ⟨Nat.le_refl _, Nat.le_refl _, Nat.le_refl _, Nat.le_refl _⟩
  subst hH
  have hl := lv_entry ([.ref (o 0), .int (nI i)]) (n := 2) (Nat.le_of_ble_eq_true rfl)
  rw [lg_entry_eq]
  generalize (lg_sl ([.ref (o 0), .int (nI i)]) ++ List.replicate (2 - (lg_sl ([.ref (o 0), .int (nI i)])).length) Slot.unset).toArray = ls at hl ⊢
  have hl : lv_has ls 2 [(0, .ref (o 0)), (1, .int (nI i))] := hl
  refine lv_iload_n hx hb dX1_itemEver_0 rfl (lv_at hl 1 rfl) ?_
  refine lv_if_lt (tgt := 21) hx hb dX1_itemEver_1 (by decide) (fun c1 => ?_) (fun c1 => ?_)
  · exact absurd c1 (nI_pos (by omega))
  · refine lv_iload_n hx hb dX1_itemEver_4 rfl (lv_at hl 1 rfl) ?_
    refine lv_aload_n hx hb dX1_itemEver_5 rfl (lv_at hl 0 rfl) ?_
    refine gD_itemCount C hP dX1_itemEver_6 ?_
    refine lv_icmp_ge (tgt := 21) hx hb dX1_itemEver_9 (by decide) (fun c2 => ?_) (fun c2 => ?_)
    · have c2 : n ≤ i := (nI_leI (by omega) (by omega)).mp c2
      exact absurd hi (by omega)
    · have c2 : ¬ n ≤ i := fun z9 => c2 ((nI_leI (by omega) (by omega)).mpr z9)
      refine lv_aload_n hx hb dX1_itemEver_12 rfl (lv_at hl 0 rfl) ?_
      refine gD_items C hP dX1_itemEver_13 ?_
      refine lv_iload_n hx hb dX1_itemEver_16 rfl (lv_at hl 1 rfl) ?_
      refine lD_items C hP hn200 (by omega) dX1_itemEver_17 ?_
      refine lv_goto (tgt := 22) hx hb dX1_itemEver_18 (by decide) ?_
      exact W.aret (v := .ref ((ad i).1)) hx hb hr (Or.inl ⟨_, rfl⟩) (Or.inr ⟨_, rfl⟩) (fun t ht _ => ⟨rfl, ht⟩) (fun q h => by cases h) dX1_itemEver_22
set_option maxHeartbeats 1000000 in
set_option maxRecDepth 100000 in
theorem cD_itemEver_no (l : Launch) (hP : va_P D vwCl (dW R o K ad va fl af bl n tc sc T S us ps am) H) (x : Int32) (h : x < 0 ∨ nI n ≤ x) : Met l yX1_itemEver (tC yX1_itemEver cX1_itemEver 2 (some (.object "GridDesk$Item"))) (rmK 0 0 0) (kP D K H [.ref (o 0), .int x]) (k2_QcV (.null)) 0 0 (fun _ => False) := by
  refine Met.ofW (cc := cX1_itemEver) (maxL := 2) (ret := (some (.object "GridDesk$Item"))) (by decide) rfl ?_
  intro p e s m args below meth c s₁ B hml hv
  obtain ⟨rfl, hH, hK, hN, hO⟩ := hv
  have hx := B.exec
  have hb := B.bytes
  have hr := B.returns
  have hts : ∀ w ∈ tT, w.before _ s = true := fun w h => atoms_spec (ws := tC yX1_itemEver cX1_itemEver 2 (some (.object "GridDesk$Item"))) B.pre w (List.mem_cons_of_mem _ h)
  have hown : s.vm.findClass RX1 = some m.cls := findClass_of_methodNamed B.named
  have hlocks := B.notSynchronized
  have C : cx RX1 D K p s m _ c cX1_itemEver := ⟨hx, hb, hown, hts, hK, hN, hO⟩
  have hR : rmOk (headSpec (tC yX1_itemEver cX1_itemEver 2 (some (.object "GridDesk$Item"))) (rmK 0 0 0)).room 0 0 0 := ⟨Nat.le_refl _, Nat.le_refl _, Nat.le_refl _, Nat.le_refl _⟩
  subst hH
  have hl := lv_entry ([.ref (o 0), .int x]) (n := 2) (Nat.le_of_ble_eq_true rfl)
  rw [lg_entry_eq]
  generalize (lg_sl ([.ref (o 0), .int x]) ++ List.replicate (2 - (lg_sl ([.ref (o 0), .int x])).length) Slot.unset).toArray = ls at hl ⊢
  have hl : lv_has ls 2 [(0, .ref (o 0)), (1, .int x)] := hl
  refine lv_iload_n hx hb dX1_itemEver_0 rfl (lv_at hl 1 rfl) ?_
  refine lv_if_lt (tgt := 21) hx hb dX1_itemEver_1 (by decide) (fun c1 => ?_) (fun c1 => ?_)
  · refine lv_null hx hb dX1_itemEver_21 ?_
    exact W.aret (v := .null) hx hb hr (Or.inl ⟨_, rfl⟩) (Or.inl rfl) (fun t ht _ => ⟨rfl, ht⟩) (fun q h => by cases h) dX1_itemEver_22
  · refine lv_iload_n hx hb dX1_itemEver_4 rfl (lv_at hl 1 rfl) ?_
    refine lv_aload_n hx hb dX1_itemEver_5 rfl (lv_at hl 0 rfl) ?_
    refine gD_itemCount C hP dX1_itemEver_6 ?_
    refine lv_icmp_ge (tgt := 21) hx hb dX1_itemEver_9 (by decide) (fun c2 => ?_) (fun c2 => ?_)
    · refine lv_null hx hb dX1_itemEver_21 ?_
      exact W.aret (v := .null) hx hb hr (Or.inl ⟨_, rfl⟩) (Or.inl rfl) (fun t ht _ => ⟨rfl, ht⟩) (fun q h => by cases h) dX1_itemEver_22
    · exact absurd h (fun z => z.elim c1 c2)
set_option maxHeartbeats 1000000 in
set_option maxRecDepth 100000 in
theorem cD_itemThere (l : Launch) (hP : va_P D vwCl (dW R o K ad va fl af bl n tc sc T S us ps am) H) (hn200 : n ≤ 200) {i : Nat} (hi : i < n) (hT : T i = true) : Met l yX1_itemThere (tC yX1_itemThere cX1_itemThere 3 (some (.object "GridDesk$Item"))) (rmK 1 0 0) (kP D K H [.ref (o 0), .int (nI i)]) (k2_QcV (.ref (ad i).1)) 0 0 (fun _ => False) := by
  refine Met.ofW (cc := cX1_itemThere) (maxL := 3) (ret := (some (.object "GridDesk$Item"))) (by decide) rfl ?_
  intro p e s m args below meth c s₁ B hml hv
  obtain ⟨rfl, hH, hK, hN, hO⟩ := hv
  have hx := B.exec
  have hb := B.bytes
  have hr := B.returns
  have hts : ∀ w ∈ tT, w.before _ s = true := fun w h => atoms_spec (ws := tC yX1_itemThere cX1_itemThere 3 (some (.object "GridDesk$Item"))) B.pre w (List.mem_cons_of_mem _ h)
  have hown : s.vm.findClass RX1 = some m.cls := findClass_of_methodNamed B.named
  have hlocks := B.notSynchronized
  have C : cx RX1 D K p s m _ c cX1_itemThere := ⟨hx, hb, hown, hts, hK, hN, hO⟩
  have hR : rmOk (headSpec (tC yX1_itemThere cX1_itemThere 3 (some (.object "GridDesk$Item"))) (rmK 1 0 0)).room 1 0 0 := ⟨Nat.le_refl _, Nat.le_refl _, Nat.le_refl _, Nat.le_refl _⟩
  subst hH
  have hl := lv_entry ([.ref (o 0), .int (nI i)]) (n := 3) (Nat.le_of_ble_eq_true rfl)
  rw [lg_entry_eq]
  generalize (lg_sl ([.ref (o 0), .int (nI i)]) ++ List.replicate (3 - (lg_sl ([.ref (o 0), .int (nI i)])).length) Slot.unset).toArray = ls at hl ⊢
  have hl : lv_has ls 3 [(0, .ref (o 0)), (1, .int (nI i))] := hl
  refine lv_aload_n hx hb dX1_itemThere_0 rfl (lv_at hl 0 rfl) ?_
  refine lv_iload_n hx hb dX1_itemThere_1 rfl (lv_at hl 1 rfl) ?_
  refine pv (va_runV (As := [.int (nI i)]) (rest := []) ⟨hx, hb, hml, hown, hts⟩ (cD_itemEver l hP hn200 hi) (cwV 1 hts gD_63 rfl rfl rfl (by decide +kernel) (rmF hR (by decide) (by decide))) (kP_V C (va_recv C.2.2.2.2.1 hP (ci := ciD) (q0 := 0) rfl rfl)) rfl rfl hl.1 rfl (lv_room (Nat.le_of_ble_eq_true rfl)) dX1_itemThere_2 ⟨hR.2.2.1, hR.2.2.2⟩) ?_
  refine lv_astore_n (lv' := [(2, .ref ((ad i).1)), (0, .ref (o 0)), (1, .int (nI i))]) hx hb dX1_itemThere_5 rfl hl (by decide) rfl (fun ls hl => ?_)
  refine lv_aload_n hx hb dX1_itemThere_6 rfl (lv_at hl 0 rfl) ?_
  refine lv_ifnull hx hb dX1_itemThere_7 ?_
  refine lv_aload_n hx hb dX1_itemThere_10 rfl (lv_at hl 0 rfl) ?_
  refine gDI_there C hP hi dX1_itemThere_11 ?_
  refine lv_if_eq (tgt := 21) hx hb dX1_itemThere_14 (by decide) (fun c1 => ?_) (fun c1 => ?_)
  · have c1 : (T i) = false := (bI_z (T i)).mp c1
    exact absurd (hT.symm.trans c1) (by decide)
  · have c1 : (T i) = true := (bI_nz (T i)).mp c1
    refine lv_aload_n hx hb dX1_itemThere_17 rfl (lv_at hl 0 rfl) ?_
    refine lv_goto (tgt := 22) hx hb dX1_itemThere_18 (by decide) ?_
    exact W.aret (v := .ref ((ad i).1)) hx hb hr (Or.inl ⟨_, rfl⟩) (Or.inr ⟨_, rfl⟩) (fun t ht _ => ⟨rfl, ht⟩) (fun q h => by cases h) dX1_itemThere_22
set_option maxHeartbeats 1000000 in
set_option maxRecDepth 100000 in
theorem cD_itemThere_no (l : Launch) (hP : va_P D vwCl (dW R o K ad va fl af bl n tc sc T S us ps am) H) (hn200 : n ≤ 200) (x : Int32) (h : nT n T x) : Met l yX1_itemThere (tC yX1_itemThere cX1_itemThere 3 (some (.object "GridDesk$Item"))) (rmK 1 0 0) (kP D K H [.ref (o 0), .int x]) (k2_QcV (.null)) 0 0 (fun _ => False) := by
  refine Met.ofW (cc := cX1_itemThere) (maxL := 3) (ret := (some (.object "GridDesk$Item"))) (by decide) rfl ?_
  intro p e s m args below meth c s₁ B hml hv
  obtain ⟨rfl, hH, hK, hN, hO⟩ := hv
  have hx := B.exec
  have hb := B.bytes
  have hr := B.returns
  have hts : ∀ w ∈ tT, w.before _ s = true := fun w h => atoms_spec (ws := tC yX1_itemThere cX1_itemThere 3 (some (.object "GridDesk$Item"))) B.pre w (List.mem_cons_of_mem _ h)
  have hown : s.vm.findClass RX1 = some m.cls := findClass_of_methodNamed B.named
  have hlocks := B.notSynchronized
  have C : cx RX1 D K p s m _ c cX1_itemThere := ⟨hx, hb, hown, hts, hK, hN, hO⟩
  have hR : rmOk (headSpec (tC yX1_itemThere cX1_itemThere 3 (some (.object "GridDesk$Item"))) (rmK 1 0 0)).room 1 0 0 := ⟨Nat.le_refl _, Nat.le_refl _, Nat.le_refl _, Nat.le_refl _⟩
  subst hH
  have hl := lv_entry ([.ref (o 0), .int x]) (n := 3) (Nat.le_of_ble_eq_true rfl)
  rw [lg_entry_eq]
  generalize (lg_sl ([.ref (o 0), .int x]) ++ List.replicate (3 - (lg_sl ([.ref (o 0), .int x])).length) Slot.unset).toArray = ls at hl ⊢
  have hl : lv_has ls 3 [(0, .ref (o 0)), (1, .int x)] := hl
  refine lv_aload_n hx hb dX1_itemThere_0 rfl (lv_at hl 0 rfl) ?_
  refine lv_iload_n hx hb dX1_itemThere_1 rfl (lv_at hl 1 rfl) ?_
  rcases h with h | h | ⟨i, hi, rfl, hT⟩
  · refine pv (va_runV (As := [.int x]) (rest := []) ⟨hx, hb, hml, hown, hts⟩ (cD_itemEver_no l hP x (Or.inl h)) (cwV 1 hts gD_63 rfl rfl rfl (by decide +kernel) (rmF hR (by decide) (by decide))) (kP_V C (va_recv C.2.2.2.2.1 hP (ci := ciD) (q0 := 0) rfl rfl)) rfl rfl hl.1 rfl (lv_room (Nat.le_of_ble_eq_true rfl)) dX1_itemThere_2 ⟨hR.2.2.1, hR.2.2.2⟩) ?_
    refine lv_astore_nN (lv' := [(2, .null), (0, .ref (o 0)), (1, .int x)]) hx hb dX1_itemThere_5 rfl hl (by decide) rfl (fun ls hl => ?_)
    refine lv_aload_nN hx hb dX1_itemThere_6 rfl (lv_at hl 0 rfl) ?_
    refine lv_ifnullN (tgt := 21) hx hb dX1_itemThere_7 (by decide) ?_
    refine lv_null hx hb dX1_itemThere_21 ?_
    exact W.aret (v := .null) hx hb hr (Or.inl ⟨_, rfl⟩) (Or.inl rfl) (fun t ht _ => ⟨rfl, ht⟩) (fun q h => by cases h) dX1_itemThere_22
  · refine pv (va_runV (As := [.int x]) (rest := []) ⟨hx, hb, hml, hown, hts⟩ (cD_itemEver_no l hP x (Or.inr h)) (cwV 1 hts gD_63 rfl rfl rfl (by decide +kernel) (rmF hR (by decide) (by decide))) (kP_V C (va_recv C.2.2.2.2.1 hP (ci := ciD) (q0 := 0) rfl rfl)) rfl rfl hl.1 rfl (lv_room (Nat.le_of_ble_eq_true rfl)) dX1_itemThere_2 ⟨hR.2.2.1, hR.2.2.2⟩) ?_
    refine lv_astore_nN (lv' := [(2, .null), (0, .ref (o 0)), (1, .int x)]) hx hb dX1_itemThere_5 rfl hl (by decide) rfl (fun ls hl => ?_)
    refine lv_aload_nN hx hb dX1_itemThere_6 rfl (lv_at hl 0 rfl) ?_
    refine lv_ifnullN (tgt := 21) hx hb dX1_itemThere_7 (by decide) ?_
    refine lv_null hx hb dX1_itemThere_21 ?_
    exact W.aret (v := .null) hx hb hr (Or.inl ⟨_, rfl⟩) (Or.inl rfl) (fun t ht _ => ⟨rfl, ht⟩) (fun q h => by cases h) dX1_itemThere_22
  · refine pv (va_runV (As := [.int (nI i)]) (rest := []) ⟨hx, hb, hml, hown, hts⟩ (cD_itemEver l hP hn200 hi) (cwV 1 hts gD_63 rfl rfl rfl (by decide +kernel) (rmF hR (by decide) (by decide))) (kP_V C (va_recv C.2.2.2.2.1 hP (ci := ciD) (q0 := 0) rfl rfl)) rfl rfl hl.1 rfl (lv_room (Nat.le_of_ble_eq_true rfl)) dX1_itemThere_2 ⟨hR.2.2.1, hR.2.2.2⟩) ?_
    refine lv_astore_n (lv' := [(2, .ref ((ad i).1)), (0, .ref (o 0)), (1, .int (nI i))]) hx hb dX1_itemThere_5 rfl hl (by decide) rfl (fun ls hl => ?_)
    refine lv_aload_n hx hb dX1_itemThere_6 rfl (lv_at hl 0 rfl) ?_
    refine lv_ifnull hx hb dX1_itemThere_7 ?_
    refine lv_aload_n hx hb dX1_itemThere_10 rfl (lv_at hl 0 rfl) ?_
    refine gDI_there C hP hi dX1_itemThere_11 ?_
    refine lv_if_eq (tgt := 21) hx hb dX1_itemThere_14 (by decide) (fun c1 => ?_) (fun c1 => ?_)
    · have c1 : (T i) = false := (bI_z (T i)).mp c1
      refine lv_null hx hb dX1_itemThere_21 ?_
      exact W.aret (v := .null) hx hb hr (Or.inl ⟨_, rfl⟩) (Or.inl rfl) (fun t ht _ => ⟨rfl, ht⟩) (fun q h => by cases h) dX1_itemThere_22
    · have c1 : (T i) = true := (bI_nz (T i)).mp c1
      exact absurd (c1.symm.trans hT) (by decide)
set_option maxHeartbeats 1000000 in
set_option maxRecDepth 100000 in
theorem cD_place_no (l : Launch) (hP : va_P D vwCl (dW R o K ad va fl af bl n tc sc T S us ps am) H) (x : Int32) (v f : Int64) (h : ¬ (isP x = true ∧ isV v = true ∧ isV f = true ∧ f ≤ v)) : Met l yX1_place (tC yX1_place cX1_place 6 (some .boolean)) (rmK 1 0 0) (kP D K H [.ref (o 0), .int x, .long v, .long f]) (k2_QcV (.int (nI 0))) 0 0 (fun _ => False) := by
  refine Met.ofW (cc := cX1_place) (maxL := 6) (ret := (some .boolean)) (by decide) rfl ?_
  intro p e s m args below meth c s₁ B hml hv
  obtain ⟨rfl, hH, hK, hN, hO⟩ := hv
  have hx := B.exec
  have hb := B.bytes
  have hr := B.returns
  have hts : ∀ w ∈ tT, w.before _ s = true := fun w h => atoms_spec (ws := tC yX1_place cX1_place 6 (some .boolean)) B.pre w (List.mem_cons_of_mem _ h)
  have hown : s.vm.findClass RX1 = some m.cls := findClass_of_methodNamed B.named
  have hlocks := B.notSynchronized
  have C : cx RX1 D K p s m _ c cX1_place := ⟨hx, hb, hown, hts, hK, hN, hO⟩
  have hR : rmOk (headSpec (tC yX1_place cX1_place 6 (some .boolean)) (rmK 1 0 0)).room 1 0 0 := ⟨Nat.le_refl _, Nat.le_refl _, Nat.le_refl _, Nat.le_refl _⟩
  subst hH
  have hl := lv_entry ([.ref (o 0), .int x, .long v, .long f]) (n := 6) (Nat.le_of_ble_eq_true rfl)
  rw [lg_entry_eq]
  generalize (lg_sl ([.ref (o 0), .int x, .long v, .long f]) ++ List.replicate (6 - (lg_sl ([.ref (o 0), .int x, .long v, .long f])).length) Slot.unset).toArray = ls at hl ⊢
  have hl : lv_has ls 6 [(0, .ref (o 0)), (1, .int x), (2, .long v), (4, .long f)] := hl
  refine lv_iload_n hx hb dX1_place_0 rfl (lv_at hl 1 rfl) ?_
  refine pv (va_runS (As := [.int x]) (rest := []) ⟨hx, hb, hml, hown, hts⟩ (cD_isPosition l x) (cwS 1 hts gD_29 rfl rfl rfl (by decide +kernel) (rmF hR (by decide) (by decide))) (kP_S C) rfl rfl hl.1 rfl (lv_room (Nat.le_of_ble_eq_true rfl)) dX1_place_1 ⟨hR.2.2.1, hR.2.2.2⟩) ?_
  refine lv_if_eq (tgt := 29) hx hb dX1_place_4 (by decide) (fun c1 => ?_) (fun c1 => ?_)
  · have c1 : (isP x) = false := (bI_z (isP x)).mp c1
    refine lv_iconst (v := nI 0) hx hb dX1_place_29 (by decide) ?_
    exact W.zret (v := nI 0) hx hb hr (by decide) (fun t ht _ => ⟨rfl, ht⟩) (fun q h => by cases h) dX1_place_30
  · have c1 : (isP x) = true := (bI_nz (isP x)).mp c1
    refine lv_lload_n hx hb dX1_place_7 rfl (lv_at hl 2 rfl) ?_
    refine pv (va_runS (As := [.long v]) (rest := []) ⟨hx, hb, hml, hown, hts⟩ (cD_isValue l v) (cwS 1 hts gD_33 rfl rfl rfl (by decide +kernel) (rmF hR (by decide) (by decide))) (kP_S C) rfl rfl hl.1 rfl (lv_room (Nat.le_of_ble_eq_true rfl)) dX1_place_8 ⟨hR.2.2.1, hR.2.2.2⟩) ?_
    refine lv_if_eq (tgt := 29) hx hb dX1_place_11 (by decide) (fun c2 => ?_) (fun c2 => ?_)
    · have c2 : (isV v) = false := (bI_z (isV v)).mp c2
      refine lv_iconst (v := nI 0) hx hb dX1_place_29 (by decide) ?_
      exact W.zret (v := nI 0) hx hb hr (by decide) (fun t ht _ => ⟨rfl, ht⟩) (fun q h => by cases h) dX1_place_30
    · have c2 : (isV v) = true := (bI_nz (isV v)).mp c2
      refine lv_lload hx hb dX1_place_14 (lv_at hl 3 rfl) ?_
      refine pv (va_runS (As := [.long f]) (rest := []) ⟨hx, hb, hml, hown, hts⟩ (cD_isValue l f) (cwS 1 hts gD_33 rfl rfl rfl (by decide +kernel) (rmF hR (by decide) (by decide))) (kP_S C) rfl rfl hl.1 rfl (lv_room (Nat.le_of_ble_eq_true rfl)) dX1_place_16 ⟨hR.2.2.1, hR.2.2.2⟩) ?_
      refine lv_if_eq (tgt := 29) hx hb dX1_place_19 (by decide) (fun c3 => ?_) (fun c3 => ?_)
      · have c3 : (isV f) = false := (bI_z (isV f)).mp c3
        refine lv_iconst (v := nI 0) hx hb dX1_place_29 (by decide) ?_
        exact W.zret (v := nI 0) hx hb hr (by decide) (fun t ht _ => ⟨rfl, ht⟩) (fun q h => by cases h) dX1_place_30
      · have c3 : (isV f) = true := (bI_nz (isV f)).mp c3
        refine lv_lload_n hx hb dX1_place_22 rfl (lv_at hl 2 rfl) ?_
        refine lv_lload hx hb dX1_place_23 (lv_at hl 3 rfl) ?_
        refine W.lcmp hx hb dX1_place_25 ?_
        refine lv_if_ge (tgt := 31) hx hb dX1_place_26 (by decide) (fun c4 => ?_) (fun c4 => ?_)
        · have c4 : f ≤ v := (lg_cmp_ge v f).mp c4
          exact absurd ⟨c1, c2, c3, c4⟩ h
        · have c4 : ¬ f ≤ v := fun z9 => c4 ((lg_cmp_ge v f).mpr z9)
          refine lv_iconst (v := nI 0) hx hb dX1_place_29 (by decide) ?_
          exact W.zret (v := nI 0) hx hb hr (by decide) (fun t ht _ => ⟨rfl, ht⟩) (fun q h => by cases h) dX1_place_30
set_option maxHeartbeats 1000000 in
set_option maxRecDepth 100000 in
theorem cD_place (l : Launch) (hP : va_P D vwCl (dW R o K ad va fl af bl n tc sc T S us ps am) H) (hD : va_D A (dW R o K ad va fl af bl n tc sc T S us ps am)) {q : Nat} (hq3 : q < 300) (v f : Int64) (h2 : isV v = true) (h3 : isV f = true) (h4 : f ≤ v) : Met l yX1_place (tC yX1_place cX1_place 6 (some .boolean)) (rmK 1 0 0) (kP D K H [.ref (o 0), .int (nI q), .long v, .long f]) (qI D A (fun (r : Int32) (u : Unit) => r = nI 1) (fun u : Unit => dW R o K ad (va_up va q v) (va_up fl q f) af bl n tc sc T S us ps am)) 0 0 A := by
  refine Met.ofW (cc := cX1_place) (maxL := 6) (ret := (some .boolean)) (by decide) rfl ?_
  intro p e s m args below meth c s₁ B hml hv
  obtain ⟨rfl, hH, hK, hN, hO⟩ := hv
  have hx := B.exec
  have hb := B.bytes
  have hr := B.returns
  have hts : ∀ w ∈ tT, w.before _ s = true := fun w h => atoms_spec (ws := tC yX1_place cX1_place 6 (some .boolean)) B.pre w (List.mem_cons_of_mem _ h)
  have hown : s.vm.findClass RX1 = some m.cls := findClass_of_methodNamed B.named
  have hlocks := B.notSynchronized
  have C : cx RX1 D K p s m _ c cX1_place := ⟨hx, hb, hown, hts, hK, hN, hO⟩
  have hR : rmOk (headSpec (tC yX1_place cX1_place 6 (some .boolean)) (rmK 1 0 0)).room 1 0 0 := ⟨Nat.le_refl _, Nat.le_refl _, Nat.le_refl _, Nat.le_refl _⟩
  subst hH
  have hS : va_S A s.heap s.heap [] := va_S.rf
  have hl := lv_entry ([.ref (o 0), .int (nI q), .long v, .long f]) (n := 6) (Nat.le_of_ble_eq_true rfl)
  rw [lg_entry_eq]
  generalize (lg_sl ([.ref (o 0), .int (nI q), .long v, .long f]) ++ List.replicate (6 - (lg_sl ([.ref (o 0), .int (nI q), .long v, .long f])).length) Slot.unset).toArray = ls at hl ⊢
  have hl : lv_has ls 6 [(0, .ref (o 0)), (1, .int (nI q)), (2, .long v), (4, .long f)] := hl
  refine lv_iload_n hx hb dX1_place_0 rfl (lv_at hl 1 rfl) ?_
  refine pv (va_runS (As := [.int (nI q)]) (rest := []) ⟨hx, hb, hml, hown, hts⟩ (cD_isPosition l (nI q)) (cwS 1 hts gD_29 rfl rfl rfl (by decide +kernel) (rmF hR (by decide) (by decide))) (kP_S C) rfl rfl hl.1 rfl (lv_room (Nat.le_of_ble_eq_true rfl)) dX1_place_1 ⟨hR.2.2.1, hR.2.2.2⟩) ?_
  refine lv_if_eq (tgt := 29) hx hb dX1_place_4 (by decide) (fun c1 => ?_) (fun c1 => ?_)
  · have c1 : (isP (nI q)) = false := (bI_z (isP (nI q))).mp c1
    exact absurd ((isP_nI hq3).symm.trans c1) (by decide)
  · have c1 : (isP (nI q)) = true := (bI_nz (isP (nI q))).mp c1
    refine lv_lload_n hx hb dX1_place_7 rfl (lv_at hl 2 rfl) ?_
    refine pv (va_runS (As := [.long v]) (rest := []) ⟨hx, hb, hml, hown, hts⟩ (cD_isValue l v) (cwS 1 hts gD_33 rfl rfl rfl (by decide +kernel) (rmF hR (by decide) (by decide))) (kP_S C) rfl rfl hl.1 rfl (lv_room (Nat.le_of_ble_eq_true rfl)) dX1_place_8 ⟨hR.2.2.1, hR.2.2.2⟩) ?_
    refine lv_if_eq (tgt := 29) hx hb dX1_place_11 (by decide) (fun c2 => ?_) (fun c2 => ?_)
    · have c2 : (isV v) = false := (bI_z (isV v)).mp c2
      exact absurd (h2.symm.trans c2) (by decide)
    · have c2 : (isV v) = true := (bI_nz (isV v)).mp c2
      refine lv_lload hx hb dX1_place_14 (lv_at hl 3 rfl) ?_
      refine pv (va_runS (As := [.long f]) (rest := []) ⟨hx, hb, hml, hown, hts⟩ (cD_isValue l f) (cwS 1 hts gD_33 rfl rfl rfl (by decide +kernel) (rmF hR (by decide) (by decide))) (kP_S C) rfl rfl hl.1 rfl (lv_room (Nat.le_of_ble_eq_true rfl)) dX1_place_16 ⟨hR.2.2.1, hR.2.2.2⟩) ?_
      refine lv_if_eq (tgt := 29) hx hb dX1_place_19 (by decide) (fun c3 => ?_) (fun c3 => ?_)
      · have c3 : (isV f) = false := (bI_z (isV f)).mp c3
        exact absurd (h3.symm.trans c3) (by decide)
      · have c3 : (isV f) = true := (bI_nz (isV f)).mp c3
        refine lv_lload_n hx hb dX1_place_22 rfl (lv_at hl 2 rfl) ?_
        refine lv_lload hx hb dX1_place_23 (lv_at hl 3 rfl) ?_
        refine W.lcmp hx hb dX1_place_25 ?_
        refine lv_if_ge (tgt := 31) hx hb dX1_place_26 (by decide) (fun c4 => ?_) (fun c4 => ?_)
        · have c4 : f ≤ v := (lg_cmp_ge v f).mp c4
          refine lv_aload_n hx hb dX1_place_31 rfl (lv_at hl 0 rfl) ?_
          refine gD_values C hP dX1_place_32 ?_
          refine lv_iload_n hx hb dX1_place_35 rfl (lv_at hl 1 rfl) ?_
          refine lv_lload_n hx hb dX1_place_36 rfl (lv_at hl 2 rfl) ?_
          refine sD_values (x := v) C hP hD hS (by omega) dX1_place_37 (fun H locs hP hD hS => ?_)
          refine lv_aload_n hx hb dX1_place_38 rfl (lv_at hl 0 rfl) ?_
          refine gD_floors C hP dX1_place_39 ?_
          refine lv_iload_n hx hb dX1_place_42 rfl (lv_at hl 1 rfl) ?_
          refine lv_lload hx hb dX1_place_43 (lv_at hl 3 rfl) ?_
          refine sD_floors (x := f) C hP hD hS (by omega) dX1_place_45 (fun H locs hP hD hS => ?_)
          refine lv_iconst (v := nI 1) hx hb dX1_place_46 (by decide) ?_
          exact W.zret (v := nI 1) hx hb hr (by decide) (fun t ht _ => ⟨⟨_, (), rfl, rfl, by rw [ht]; exact hP, hD⟩, hS.F ht⟩) hS.2.2 dX1_place_47
        · have c4 : ¬ f ≤ v := fun z9 => c4 ((lg_cmp_ge v f).mpr z9)
          exact absurd h4 c4
set_option maxHeartbeats 1000000 in
set_option maxRecDepth 100000 in
theorem cD_net_no (l : Launch) (hP : va_P D vwCl (dW R o K ad va fl af bl n tc sc T S us ps am) H) (hn200 : n ≤ 200) (x y : Int32) (v : Int64) (h : nT n T x) : Met l yX1_net (tC yX1_net cX1_net 6 (some .boolean)) (rmK 3 0 0) (kP D K H [.ref (o 0), .int x, .int y, .long v]) (k2_QcV (.int (nI 0))) 0 0 (fun _ => False) := by
  refine Met.ofW (cc := cX1_net) (maxL := 6) (ret := (some .boolean)) (by decide) rfl ?_
  intro p e s m args below meth c s₁ B hml hv
  obtain ⟨rfl, hH, hK, hN, hO⟩ := hv
  have hx := B.exec
  have hb := B.bytes
  have hr := B.returns
  have hts : ∀ w ∈ tT, w.before _ s = true := fun w h => atoms_spec (ws := tC yX1_net cX1_net 6 (some .boolean)) B.pre w (List.mem_cons_of_mem _ h)
  have hown : s.vm.findClass RX1 = some m.cls := findClass_of_methodNamed B.named
  have hlocks := B.notSynchronized
  have C : cx RX1 D K p s m _ c cX1_net := ⟨hx, hb, hown, hts, hK, hN, hO⟩
  have hR : rmOk (headSpec (tC yX1_net cX1_net 6 (some .boolean)) (rmK 3 0 0)).room 3 0 0 := ⟨Nat.le_refl _, Nat.le_refl _, Nat.le_refl _, Nat.le_refl _⟩
  subst hH
  have hl := lv_entry ([.ref (o 0), .int x, .int y, .long v]) (n := 6) (Nat.le_of_ble_eq_true rfl)
  rw [lg_entry_eq]
  generalize (lg_sl ([.ref (o 0), .int x, .int y, .long v]) ++ List.replicate (6 - (lg_sl ([.ref (o 0), .int x, .int y, .long v])).length) Slot.unset).toArray = ls at hl ⊢
  have hl : lv_has ls 6 [(0, .ref (o 0)), (1, .int x), (2, .int y), (3, .long v)] := hl
  refine lv_aload_n hx hb dX1_net_0 rfl (lv_at hl 0 rfl) ?_
  refine lv_iload_n hx hb dX1_net_1 rfl (lv_at hl 1 rfl) ?_
  refine pv (va_runV (As := [.int x]) (rest := []) ⟨hx, hb, hml, hown, hts⟩ (cD_itemThere_no l hP hn200 x h) (cwV 1 hts gD_45 rfl rfl rfl (by decide +kernel) (rmF hR (by decide) (by decide))) (kP_V C (va_recv C.2.2.2.2.1 hP (ci := ciD) (q0 := 0) rfl rfl)) rfl rfl hl.1 rfl (lv_room (Nat.le_of_ble_eq_true rfl)) dX1_net_2 ⟨hR.2.2.1, hR.2.2.2⟩) ?_
  refine lv_astoreN (lv' := [(5, .null), (0, .ref (o 0)), (1, .int x), (2, .int y), (3, .long v)]) hx hb dX1_net_5 hl (by decide) rfl (fun ls hl => ?_)
  refine lv_aloadN hx hb dX1_net_7 (lv_at hl 0 rfl) ?_
  refine lv_ifnullN (tgt := 33) hx hb dX1_net_9 (by decide) ?_
  refine lv_iconst (v := nI 0) hx hb dX1_net_33 (by decide) ?_
  exact W.zret (v := nI 0) hx hb hr (by decide) (fun t ht _ => ⟨rfl, ht⟩) (fun q h => by cases h) dX1_net_34
set_option maxHeartbeats 1000000 in
set_option maxRecDepth 100000 in
theorem cD_net_no2 (l : Launch) (hP : va_P D vwCl (dW R o K ad va fl af bl n tc sc T S us ps am) H) (hn200 : n ≤ 200) {i : Nat} (hi : i < n) (hT : T i = true) (y : Int32) (v : Int64) (h : isP y = false) : Met l yX1_net (tC yX1_net cX1_net 6 (some .boolean)) (rmK 3 0 0) (kP D K H [.ref (o 0), .int (nI i), .int y, .long v]) (k2_QcV (.int (nI 0))) 0 0 (fun _ => False) := by
  refine Met.ofW (cc := cX1_net) (maxL := 6) (ret := (some .boolean)) (by decide) rfl ?_
  intro p e s m args below meth c s₁ B hml hv
  obtain ⟨rfl, hH, hK, hN, hO⟩ := hv
  have hx := B.exec
  have hb := B.bytes
  have hr := B.returns
  have hts : ∀ w ∈ tT, w.before _ s = true := fun w h => atoms_spec (ws := tC yX1_net cX1_net 6 (some .boolean)) B.pre w (List.mem_cons_of_mem _ h)
  have hown : s.vm.findClass RX1 = some m.cls := findClass_of_methodNamed B.named
  have hlocks := B.notSynchronized
  have C : cx RX1 D K p s m _ c cX1_net := ⟨hx, hb, hown, hts, hK, hN, hO⟩
  have hR : rmOk (headSpec (tC yX1_net cX1_net 6 (some .boolean)) (rmK 3 0 0)).room 3 0 0 := ⟨Nat.le_refl _, Nat.le_refl _, Nat.le_refl _, Nat.le_refl _⟩
  subst hH
  have hl := lv_entry ([.ref (o 0), .int (nI i), .int y, .long v]) (n := 6) (Nat.le_of_ble_eq_true rfl)
  rw [lg_entry_eq]
  generalize (lg_sl ([.ref (o 0), .int (nI i), .int y, .long v]) ++ List.replicate (6 - (lg_sl ([.ref (o 0), .int (nI i), .int y, .long v])).length) Slot.unset).toArray = ls at hl ⊢
  have hl : lv_has ls 6 [(0, .ref (o 0)), (1, .int (nI i)), (2, .int y), (3, .long v)] := hl
  refine lv_aload_n hx hb dX1_net_0 rfl (lv_at hl 0 rfl) ?_
  refine lv_iload_n hx hb dX1_net_1 rfl (lv_at hl 1 rfl) ?_
  refine pv (va_runV (As := [.int (nI i)]) (rest := []) ⟨hx, hb, hml, hown, hts⟩ (cD_itemThere l hP hn200 hi hT) (cwV 1 hts gD_45 rfl rfl rfl (by decide +kernel) (rmF hR (by decide) (by decide))) (kP_V C (va_recv C.2.2.2.2.1 hP (ci := ciD) (q0 := 0) rfl rfl)) rfl rfl hl.1 rfl (lv_room (Nat.le_of_ble_eq_true rfl)) dX1_net_2 ⟨hR.2.2.1, hR.2.2.2⟩) ?_
  refine lv_astore (lv' := [(5, .ref ((ad i).1)), (0, .ref (o 0)), (1, .int (nI i)), (2, .int y), (3, .long v)]) hx hb dX1_net_5 hl (by decide) rfl (fun ls hl => ?_)
  refine lv_aload hx hb dX1_net_7 (lv_at hl 0 rfl) ?_
  refine lv_ifnull hx hb dX1_net_9 ?_
  refine lv_iload_n hx hb dX1_net_12 rfl (lv_at hl 3 rfl) ?_
  refine pv (va_runS (As := [.int y]) (rest := []) ⟨hx, hb, hml, hown, hts⟩ (cD_isPosition l y) (cwS 1 hts gD_29 rfl rfl rfl (by decide +kernel) (rmF hR (by decide) (by decide))) (kP_S C) rfl rfl hl.1 rfl (lv_room (Nat.le_of_ble_eq_true rfl)) dX1_net_13 ⟨hR.2.2.1, hR.2.2.2⟩) ?_
  refine lv_if_eq (tgt := 33) hx hb dX1_net_16 (by decide) (fun c1 => ?_) (fun c1 => ?_)
  · have c1 : (isP y) = false := (bI_z (isP y)).mp c1
    refine lv_iconst (v := nI 0) hx hb dX1_net_33 (by decide) ?_
    exact W.zret (v := nI 0) hx hb hr (by decide) (fun t ht _ => ⟨rfl, ht⟩) (fun q h => by cases h) dX1_net_34
  · have c1 : (isP y) = true := (bI_nz (isP y)).mp c1
    exact absurd (c1.symm.trans h) (by decide)
set_option maxHeartbeats 1000000 in
set_option maxRecDepth 100000 in
theorem cD_net (l : Launch) (hP : va_P D vwCl (dW R o K ad va fl af bl n tc sc T S us ps am) H) (hD : va_D A (dW R o K ad va fl af bl n tc sc T S us ps am)) (hn200 : n ≤ 200) {i : Nat} (hi : i < n) (hT : T i = true) (hu : us i ≤ 16) {q : Nat} (hq3 : q < 300) (v : Int64) : Met l yX1_net (tC yX1_net cX1_net 6 (some .boolean)) (rmK 3 0 0) (kP D K H [.ref (o 0), .int (nI i), .int (nI q), .long v]) (qI D A (fun (r : Int32) (u : Unit) => r = bI (chC q v (us i) (ps i) (am i)).1) (fun u : Unit => dW R o K ad va fl af bl n tc sc T S (va_up us i (chC q v (us i) (ps i) (am i)).2.1) (va_up ps i (chC q v (us i) (ps i) (am i)).2.2.1) (va_up am i (chC q v (us i) (ps i) (am i)).2.2.2))) 0 0 A := by
  refine Met.ofW (cc := cX1_net) (maxL := 6) (ret := (some .boolean)) (by decide) rfl ?_
  intro p e s m args below meth c s₁ B hml hv
  obtain ⟨rfl, hH, hK, hN, hO⟩ := hv
  have hx := B.exec
  have hb := B.bytes
  have hr := B.returns
  have hts : ∀ w ∈ tT, w.before _ s = true := fun w h => atoms_spec (ws := tC yX1_net cX1_net 6 (some .boolean)) B.pre w (List.mem_cons_of_mem _ h)
  have hown : s.vm.findClass RX1 = some m.cls := findClass_of_methodNamed B.named
  have hlocks := B.notSynchronized
  have C : cx RX1 D K p s m _ c cX1_net := ⟨hx, hb, hown, hts, hK, hN, hO⟩
  have hR : rmOk (headSpec (tC yX1_net cX1_net 6 (some .boolean)) (rmK 3 0 0)).room 3 0 0 := ⟨Nat.le_refl _, Nat.le_refl _, Nat.le_refl _, Nat.le_refl _⟩
  subst hH
  have hS : va_S A s.heap s.heap [] := va_S.rf
  have hl := lv_entry ([.ref (o 0), .int (nI i), .int (nI q), .long v]) (n := 6) (Nat.le_of_ble_eq_true rfl)
  rw [lg_entry_eq]
  generalize (lg_sl ([.ref (o 0), .int (nI i), .int (nI q), .long v]) ++ List.replicate (6 - (lg_sl ([.ref (o 0), .int (nI i), .int (nI q), .long v])).length) Slot.unset).toArray = ls at hl ⊢
  have hl : lv_has ls 6 [(0, .ref (o 0)), (1, .int (nI i)), (2, .int (nI q)), (3, .long v)] := hl
  refine lv_aload_n hx hb dX1_net_0 rfl (lv_at hl 0 rfl) ?_
  refine lv_iload_n hx hb dX1_net_1 rfl (lv_at hl 1 rfl) ?_
  refine pv (va_runV (As := [.int (nI i)]) (rest := []) ⟨hx, hb, hml, hown, hts⟩ (cD_itemThere l hP hn200 hi hT) (cwV 1 hts gD_45 rfl rfl rfl (by decide +kernel) (rmF hR (by decide) (by decide))) (kP_V C (va_recv C.2.2.2.2.1 hP (ci := ciD) (q0 := 0) rfl rfl)) rfl rfl hl.1 rfl (lv_room (Nat.le_of_ble_eq_true rfl)) dX1_net_2 ⟨hR.2.2.1, hR.2.2.2⟩) ?_
  refine lv_astore (lv' := [(5, .ref ((ad i).1)), (0, .ref (o 0)), (1, .int (nI i)), (2, .int (nI q)), (3, .long v)]) hx hb dX1_net_5 hl (by decide) rfl (fun ls hl => ?_)
  refine lv_aload hx hb dX1_net_7 (lv_at hl 0 rfl) ?_
  refine lv_ifnull hx hb dX1_net_9 ?_
  refine lv_iload_n hx hb dX1_net_12 rfl (lv_at hl 3 rfl) ?_
  refine pv (va_runS (As := [.int (nI q)]) (rest := []) ⟨hx, hb, hml, hown, hts⟩ (cD_isPosition l (nI q)) (cwS 1 hts gD_29 rfl rfl rfl (by decide +kernel) (rmF hR (by decide) (by decide))) (kP_S C) rfl rfl hl.1 rfl (lv_room (Nat.le_of_ble_eq_true rfl)) dX1_net_13 ⟨hR.2.2.1, hR.2.2.2⟩) ?_
  refine lv_if_eq (tgt := 33) hx hb dX1_net_16 (by decide) (fun c1 => ?_) (fun c1 => ?_)
  · have c1 : (isP (nI q)) = false := (bI_z (isP (nI q))).mp c1
    exact absurd ((isP_nI hq3).symm.trans c1) (by decide)
  · have c1 : (isP (nI q)) = true := (bI_nz (isP (nI q))).mp c1
    refine lv_aload hx hb dX1_net_19 (lv_at hl 0 rfl) ?_
    refine lv_iload_n hx hb dX1_net_21 rfl (lv_at hl 3 rfl) ?_
    refine lv_lload_n hx hb dX1_net_22 rfl (lv_at hl 4 rfl) ?_
    refine wi (va_runVN (As := [.int (nI q), .long v]) (rest := []) ⟨hx, hb, hml, hown, hts⟩ (cI_change l hP hD hi hu hq3 v) ⟨va_cnB 2 hts gD_49.1 rfl rfl rfl (C.2.2.2.2.2.1 _ gD_49.2.1) (hts _ gD_49.2.2.1) (by decide +kernel) (rmF hR (by decide) (by decide)), hts _ gD_49.2.2.2.1, hts _ gD_49.2.2.2.2⟩ (kP_V C (va_recv C.2.2.2.2.1 hP (ci := ciI) (q0 := 6 + (R.length + 3 * i)) rfl (dW_0 hi))) rfl rfl hl.1 rfl (lv_room (Nat.le_of_ble_eq_true rfl)) dX1_net_23 ⟨hR.2.2.1, hR.2.2.2⟩) hS (fun r _ H locs hq hP hD hS => ?_)
    subst hq
    refine lv_if_eq (tgt := 33) hx hb dX1_net_26 (by decide) (fun c2 => ?_) (fun c2 => ?_)
    · have c2 : (chC q v (us i) (ps i) (am i)).1 = false := (bI_z (chC q v (us i) (ps i) (am i)).1).mp c2
      refine lv_iconst (v := nI 0) hx hb dX1_net_33 (by decide) ?_
      exact W.zret (v := nI 0) hx hb hr (by decide) (fun t ht _ => ⟨⟨_, (), rfl, b0 c2, by rw [ht]; exact hP, hD⟩, hS.F ht⟩) hS.2.2 dX1_net_34
    · have c2 : (chC q v (us i) (ps i) (am i)).1 = true := (bI_nz (chC q v (us i) (ps i) (am i)).1).mp c2
      refine lv_iconst (v := nI 1) hx hb dX1_net_29 (by decide) ?_
      refine lv_goto (tgt := 34) hx hb dX1_net_30 (by decide) ?_
      exact W.zret (v := nI 1) hx hb hr (by decide) (fun t ht _ => ⟨⟨_, (), rfl, b1 c2, by rw [ht]; exact hP, hD⟩, hS.F ht⟩) hS.2.2 dX1_net_34
set_option maxHeartbeats 1000000 in
set_option maxRecDepth 100000 in
theorem cD_go_no (l : Launch) (hP : va_P D vwCl (dW R o K ad va fl af bl n tc sc T S us ps am) H) (hn200 : n ≤ 200) (x : Int32) (h : nT n T x) : Met l yX1_go (tC yX1_go cX1_go 3 (some .boolean)) (rmK 2 0 0) (kP D K H [.ref (o 0), .int x]) (k2_QcV (.int (nI 0))) 0 0 (fun _ => False) := by
  refine Met.ofW (cc := cX1_go) (maxL := 3) (ret := (some .boolean)) (by decide) rfl ?_
  intro p e s m args below meth c s₁ B hml hv
  obtain ⟨rfl, hH, hK, hN, hO⟩ := hv
  have hx := B.exec
  have hb := B.bytes
  have hr := B.returns
  have hts : ∀ w ∈ tT, w.before _ s = true := fun w h => atoms_spec (ws := tC yX1_go cX1_go 3 (some .boolean)) B.pre w (List.mem_cons_of_mem _ h)
  have hown : s.vm.findClass RX1 = some m.cls := findClass_of_methodNamed B.named
  have hlocks := B.notSynchronized
  have C : cx RX1 D K p s m _ c cX1_go := ⟨hx, hb, hown, hts, hK, hN, hO⟩
  have hR : rmOk (headSpec (tC yX1_go cX1_go 3 (some .boolean)) (rmK 2 0 0)).room 2 0 0 := ⟨Nat.le_refl _, Nat.le_refl _, Nat.le_refl _, Nat.le_refl _⟩
  subst hH
  have hl := lv_entry ([.ref (o 0), .int x]) (n := 3) (Nat.le_of_ble_eq_true rfl)
  rw [lg_entry_eq]
  generalize (lg_sl ([.ref (o 0), .int x]) ++ List.replicate (3 - (lg_sl ([.ref (o 0), .int x])).length) Slot.unset).toArray = ls at hl ⊢
  have hl : lv_has ls 3 [(0, .ref (o 0)), (1, .int x)] := hl
  refine lv_aload_n hx hb dX1_go_0 rfl (lv_at hl 0 rfl) ?_
  refine lv_iload_n hx hb dX1_go_1 rfl (lv_at hl 1 rfl) ?_
  refine pv (va_runV (As := [.int x]) (rest := []) ⟨hx, hb, hml, hown, hts⟩ (cD_itemThere_no l hP hn200 x h) (cwV 1 hts gD_45 rfl rfl rfl (by decide +kernel) (rmF hR (by decide) (by decide))) (kP_V C (va_recv C.2.2.2.2.1 hP (ci := ciD) (q0 := 0) rfl rfl)) rfl rfl hl.1 rfl (lv_room (Nat.le_of_ble_eq_true rfl)) dX1_go_2 ⟨hR.2.2.1, hR.2.2.2⟩) ?_
  refine lv_astore_nN (lv' := [(2, .null), (0, .ref (o 0)), (1, .int x)]) hx hb dX1_go_5 rfl hl (by decide) rfl (fun ls hl => ?_)
  refine lv_aload_nN hx hb dX1_go_6 rfl (lv_at hl 0 rfl) ?_
  refine lv_ifnonnullN hx hb dX1_go_7 ?_
  refine lv_iconst (v := nI 0) hx hb dX1_go_10 (by decide) ?_
  exact W.zret (v := nI 0) hx hb hr (by decide) (fun t ht _ => ⟨rfl, ht⟩) (fun q h => by cases h) dX1_go_11
set_option maxHeartbeats 1000000 in
set_option maxRecDepth 100000 in
theorem cD_go (l : Launch) (hP : va_P D vwCl (dW R o K ad va fl af bl n tc sc T S us ps am) H) (hD : va_D A (dW R o K ad va fl af bl n tc sc T S us ps am)) (hn200 : n ≤ 200) {i : Nat} (hi : i < n) (hT : T i = true) (htc : 0 < tc) : Met l yX1_go (tC yX1_go cX1_go 3 (some .boolean)) (rmK 2 0 0) (kP D K H [.ref (o 0), .int (nI i)]) (qI D A (fun (r : Int32) (u : Unit) => r = nI 1) (fun u : Unit => dW R o K ad va fl af bl n (tc - 1) sc (va_up T i false) S us ps am)) 0 0 A := by
  refine Met.ofW (cc := cX1_go) (maxL := 3) (ret := (some .boolean)) (by decide) rfl ?_
  intro p e s m args below meth c s₁ B hml hv
  obtain ⟨rfl, hH, hK, hN, hO⟩ := hv
  have hx := B.exec
  have hb := B.bytes
  have hr := B.returns
  have hts : ∀ w ∈ tT, w.before _ s = true := fun w h => atoms_spec (ws := tC yX1_go cX1_go 3 (some .boolean)) B.pre w (List.mem_cons_of_mem _ h)
  have hown : s.vm.findClass RX1 = some m.cls := findClass_of_methodNamed B.named
  have hlocks := B.notSynchronized
  have C : cx RX1 D K p s m _ c cX1_go := ⟨hx, hb, hown, hts, hK, hN, hO⟩
  have hR : rmOk (headSpec (tC yX1_go cX1_go 3 (some .boolean)) (rmK 2 0 0)).room 2 0 0 := ⟨Nat.le_refl _, Nat.le_refl _, Nat.le_refl _, Nat.le_refl _⟩
  subst hH
  have hS : va_S A s.heap s.heap [] := va_S.rf
  have hl := lv_entry ([.ref (o 0), .int (nI i)]) (n := 3) (Nat.le_of_ble_eq_true rfl)
  rw [lg_entry_eq]
  generalize (lg_sl ([.ref (o 0), .int (nI i)]) ++ List.replicate (3 - (lg_sl ([.ref (o 0), .int (nI i)])).length) Slot.unset).toArray = ls at hl ⊢
  have hl : lv_has ls 3 [(0, .ref (o 0)), (1, .int (nI i))] := hl
  refine lv_aload_n hx hb dX1_go_0 rfl (lv_at hl 0 rfl) ?_
  refine lv_iload_n hx hb dX1_go_1 rfl (lv_at hl 1 rfl) ?_
  refine pv (va_runV (As := [.int (nI i)]) (rest := []) ⟨hx, hb, hml, hown, hts⟩ (cD_itemThere l hP hn200 hi hT) (cwV 1 hts gD_45 rfl rfl rfl (by decide +kernel) (rmF hR (by decide) (by decide))) (kP_V C (va_recv C.2.2.2.2.1 hP (ci := ciD) (q0 := 0) rfl rfl)) rfl rfl hl.1 rfl (lv_room (Nat.le_of_ble_eq_true rfl)) dX1_go_2 ⟨hR.2.2.1, hR.2.2.2⟩) ?_
  refine lv_astore_n (lv' := [(2, .ref ((ad i).1)), (0, .ref (o 0)), (1, .int (nI i))]) hx hb dX1_go_5 rfl hl (by decide) rfl (fun ls hl => ?_)
  refine lv_aload_n hx hb dX1_go_6 rfl (lv_at hl 0 rfl) ?_
  refine lv_ifnonnull (tgt := 12) hx hb dX1_go_7 (by decide) ?_
  refine lv_aload_n hx hb dX1_go_12 rfl (lv_at hl 0 rfl) ?_
  refine lv_iconst (v := nI 0) hx hb dX1_go_13 (by decide) ?_
  refine tp_i (y := bI false) (b0 rfl) ?_
  refine pDI_there C hP hD hS hi dX1_go_14 (fun H locs hP hD hS => ?_)
  refine lv_aload_n hx hb dX1_go_17 rfl (lv_at hl 1 rfl) ?_
  refine lv_dup hx hb dX1_go_18 rfl ?_
  refine gD_thereCount C hP dX1_go_19 ?_
  refine lv_iconst (v := nI 1) hx hb dX1_go_22 (by decide) ?_
  refine lv_isub hx hb dX1_go_23 ?_
  refine tp_i (y := nI (tc - 1)) (pk_sub (by omega)) ?_
  refine pD_thereCount C hP hD hS dX1_go_24 (fun H locs hP hD hS => ?_)
  refine lv_iconst (v := nI 1) hx hb dX1_go_27 (by decide) ?_
  exact W.zret (v := nI 1) hx hb hr (by decide) (fun t ht _ => ⟨⟨_, (), rfl, rfl, by rw [ht]; exact hP, hD⟩, hS.F ht⟩) hS.2.2 dX1_go_28
set_option maxHeartbeats 1000000 in
set_option maxRecDepth 100000 in
theorem cD_in_no (l : Launch) (hP : va_P D vwCl (dW R o K ad va fl af bl n tc sc T S us ps am) H) (x : Int32) (h : x < 0 ∨ nI n ≤ x) : Met l yX1_in (tC yX1_in cX1_in 3 (some .boolean)) (rmK 1 0 0) (kP D K H [.ref (o 0), .int x]) (k2_QcV (.int (nI 0))) 0 0 (fun _ => False) := by
  refine Met.ofW (cc := cX1_in) (maxL := 3) (ret := (some .boolean)) (by decide) rfl ?_
  intro p e s m args below meth c s₁ B hml hv
  obtain ⟨rfl, hH, hK, hN, hO⟩ := hv
  have hx := B.exec
  have hb := B.bytes
  have hr := B.returns
  have hts : ∀ w ∈ tT, w.before _ s = true := fun w h => atoms_spec (ws := tC yX1_in cX1_in 3 (some .boolean)) B.pre w (List.mem_cons_of_mem _ h)
  have hown : s.vm.findClass RX1 = some m.cls := findClass_of_methodNamed B.named
  have hlocks := B.notSynchronized
  have C : cx RX1 D K p s m _ c cX1_in := ⟨hx, hb, hown, hts, hK, hN, hO⟩
  have hR : rmOk (headSpec (tC yX1_in cX1_in 3 (some .boolean)) (rmK 1 0 0)).room 1 0 0 := ⟨Nat.le_refl _, Nat.le_refl _, Nat.le_refl _, Nat.le_refl _⟩
  subst hH
  have hl := lv_entry ([.ref (o 0), .int x]) (n := 3) (Nat.le_of_ble_eq_true rfl)
  rw [lg_entry_eq]
  generalize (lg_sl ([.ref (o 0), .int x]) ++ List.replicate (3 - (lg_sl ([.ref (o 0), .int x])).length) Slot.unset).toArray = ls at hl ⊢
  have hl : lv_has ls 3 [(0, .ref (o 0)), (1, .int x)] := hl
  refine lv_aload_n hx hb dX1_in_0 rfl (lv_at hl 0 rfl) ?_
  refine lv_iload_n hx hb dX1_in_1 rfl (lv_at hl 1 rfl) ?_
  refine pv (va_runV (As := [.int x]) (rest := []) ⟨hx, hb, hml, hown, hts⟩ (cD_itemEver_no l hP x h) (cwV 1 hts gD_63 rfl rfl rfl (by decide +kernel) (rmF hR (by decide) (by decide))) (kP_V C (va_recv C.2.2.2.2.1 hP (ci := ciD) (q0 := 0) rfl rfl)) rfl rfl hl.1 rfl (lv_room (Nat.le_of_ble_eq_true rfl)) dX1_in_2 ⟨hR.2.2.1, hR.2.2.2⟩) ?_
  refine lv_astore_nN (lv' := [(2, .null), (0, .ref (o 0)), (1, .int x)]) hx hb dX1_in_5 rfl hl (by decide) rfl (fun ls hl => ?_)
  refine lv_aload_nN hx hb dX1_in_6 rfl (lv_at hl 0 rfl) ?_
  refine lv_ifnullN (tgt := 21) hx hb dX1_in_7 (by decide) ?_
  refine lv_iconst (v := nI 0) hx hb dX1_in_21 (by decide) ?_
  exact W.zret (v := nI 0) hx hb hr (by decide) (fun t ht _ => ⟨rfl, ht⟩) (fun q h => by cases h) dX1_in_22
set_option maxHeartbeats 1000000 in
set_option maxRecDepth 100000 in
theorem cD_in (l : Launch) (hP : va_P D vwCl (dW R o K ad va fl af bl n tc sc T S us ps am) H) (hn200 : n ≤ 200) {i : Nat} (hi : i < n) : Met l yX1_in (tC yX1_in cX1_in 3 (some .boolean)) (rmK 1 0 0) (kP D K H [.ref (o 0), .int (nI i)]) (k2_QcV (.int (bI (S i)))) 0 0 (fun _ => False) := by
  refine Met.ofW (cc := cX1_in) (maxL := 3) (ret := (some .boolean)) (by decide) rfl ?_
  intro p e s m args below meth c s₁ B hml hv
  obtain ⟨rfl, hH, hK, hN, hO⟩ := hv
  have hx := B.exec
  have hb := B.bytes
  have hr := B.returns
  have hts : ∀ w ∈ tT, w.before _ s = true := fun w h => atoms_spec (ws := tC yX1_in cX1_in 3 (some .boolean)) B.pre w (List.mem_cons_of_mem _ h)
  have hown : s.vm.findClass RX1 = some m.cls := findClass_of_methodNamed B.named
  have hlocks := B.notSynchronized
  have C : cx RX1 D K p s m _ c cX1_in := ⟨hx, hb, hown, hts, hK, hN, hO⟩
  have hR : rmOk (headSpec (tC yX1_in cX1_in 3 (some .boolean)) (rmK 1 0 0)).room 1 0 0 := ⟨Nat.le_refl _, Nat.le_refl _, Nat.le_refl _, Nat.le_refl _⟩
  subst hH
  have hl := lv_entry ([.ref (o 0), .int (nI i)]) (n := 3) (Nat.le_of_ble_eq_true rfl)
  rw [lg_entry_eq]
  generalize (lg_sl ([.ref (o 0), .int (nI i)]) ++ List.replicate (3 - (lg_sl ([.ref (o 0), .int (nI i)])).length) Slot.unset).toArray = ls at hl ⊢
  have hl : lv_has ls 3 [(0, .ref (o 0)), (1, .int (nI i))] := hl
  refine lv_aload_n hx hb dX1_in_0 rfl (lv_at hl 0 rfl) ?_
  refine lv_iload_n hx hb dX1_in_1 rfl (lv_at hl 1 rfl) ?_
  refine pv (va_runV (As := [.int (nI i)]) (rest := []) ⟨hx, hb, hml, hown, hts⟩ (cD_itemEver l hP hn200 hi) (cwV 1 hts gD_63 rfl rfl rfl (by decide +kernel) (rmF hR (by decide) (by decide))) (kP_V C (va_recv C.2.2.2.2.1 hP (ci := ciD) (q0 := 0) rfl rfl)) rfl rfl hl.1 rfl (lv_room (Nat.le_of_ble_eq_true rfl)) dX1_in_2 ⟨hR.2.2.1, hR.2.2.2⟩) ?_
  refine lv_astore_n (lv' := [(2, .ref ((ad i).1)), (0, .ref (o 0)), (1, .int (nI i))]) hx hb dX1_in_5 rfl hl (by decide) rfl (fun ls hl => ?_)
  refine lv_aload_n hx hb dX1_in_6 rfl (lv_at hl 0 rfl) ?_
  refine lv_ifnull hx hb dX1_in_7 ?_
  refine lv_aload_n hx hb dX1_in_10 rfl (lv_at hl 0 rfl) ?_
  refine gDI_inSet C hP hi dX1_in_11 ?_
  refine lv_if_eq (tgt := 21) hx hb dX1_in_14 (by decide) (fun c1 => ?_) (fun c1 => ?_)
  · have c1 : (S i) = false := (bI_z (S i)).mp c1
    refine lv_iconst (v := nI 0) hx hb dX1_in_21 (by decide) ?_
    exact W.zret (v := nI 0) hx hb hr (by decide) (fun t ht _ => ⟨rt0 c1, ht⟩) (fun q h => by cases h) dX1_in_22
  · have c1 : (S i) = true := (bI_nz (S i)).mp c1
    refine lv_iconst (v := nI 1) hx hb dX1_in_17 (by decide) ?_
    refine lv_goto (tgt := 22) hx hb dX1_in_18 (by decide) ?_
    exact W.zret (v := nI 1) hx hb hr (by decide) (fun t ht _ => ⟨rt1 c1, ht⟩) (fun q h => by cases h) dX1_in_22
set_option maxHeartbeats 1000000 in
set_option maxRecDepth 100000 in
theorem cD_value_no (l : Launch) (hP : va_P D vwCl (dW R o K ad va fl af bl n tc sc T S us ps am) H) (x : Int32) (h : isP x = false) : Met l yX1_value (tC yX1_value cX1_value 2 (some .long)) (rmK 1 0 0) (kP D K H [.ref (o 0), .int x]) (k2_QcV (.long 0)) 0 0 (fun _ => False) := by
  refine Met.ofW (cc := cX1_value) (maxL := 2) (ret := (some .long)) (by decide) rfl ?_
  intro p e s m args below meth c s₁ B hml hv
  obtain ⟨rfl, hH, hK, hN, hO⟩ := hv
  have hx := B.exec
  have hb := B.bytes
  have hr := B.returns
  have hts : ∀ w ∈ tT, w.before _ s = true := fun w h => atoms_spec (ws := tC yX1_value cX1_value 2 (some .long)) B.pre w (List.mem_cons_of_mem _ h)
  have hown : s.vm.findClass RX1 = some m.cls := findClass_of_methodNamed B.named
  have hlocks := B.notSynchronized
  have C : cx RX1 D K p s m _ c cX1_value := ⟨hx, hb, hown, hts, hK, hN, hO⟩
  have hR : rmOk (headSpec (tC yX1_value cX1_value 2 (some .long)) (rmK 1 0 0)).room 1 0 0 := ⟨Nat.le_refl _, Nat.le_refl _, Nat.le_refl _, Nat.le_refl _⟩
  subst hH
  have hl := lv_entry ([.ref (o 0), .int x]) (n := 2) (Nat.le_of_ble_eq_true rfl)
  rw [lg_entry_eq]
  generalize (lg_sl ([.ref (o 0), .int x]) ++ List.replicate (2 - (lg_sl ([.ref (o 0), .int x])).length) Slot.unset).toArray = ls at hl ⊢
  have hl : lv_has ls 2 [(0, .ref (o 0)), (1, .int x)] := hl
  refine lv_iload_n hx hb dX1_value_0 rfl (lv_at hl 1 rfl) ?_
  refine pv (va_runS (As := [.int x]) (rest := []) ⟨hx, hb, hml, hown, hts⟩ (cD_isPosition l x) (cwS 1 hts gD_29 rfl rfl rfl (by decide +kernel) (rmF hR (by decide) (by decide))) (kP_S C) rfl rfl hl.1 rfl (lv_room (Nat.le_of_ble_eq_true rfl)) dX1_value_1 ⟨hR.2.2.1, hR.2.2.2⟩) ?_
  refine lv_if_eq (tgt := 16) hx hb dX1_value_4 (by decide) (fun c1 => ?_) (fun c1 => ?_)
  · have c1 : (isP x) = false := (bI_z (isP x)).mp c1
    refine lv_lconst (v := 0) hx hb dX1_value_16 (by decide) ?_
    exact W.lret (v := 0) hx hb hr (fun t ht _ => ⟨rfl, ht⟩) (fun q h => by cases h) dX1_value_17
  · have c1 : (isP x) = true := (bI_nz (isP x)).mp c1
    exact absurd (c1.symm.trans h) (by decide)
set_option maxHeartbeats 1000000 in
set_option maxRecDepth 100000 in
theorem cD_value (l : Launch) (hP : va_P D vwCl (dW R o K ad va fl af bl n tc sc T S us ps am) H) {q : Nat} (hq3 : q < 300) : Met l yX1_value (tC yX1_value cX1_value 2 (some .long)) (rmK 1 0 0) (kP D K H [.ref (o 0), .int (nI q)]) (k2_QcV (.long (va q))) 0 0 (fun _ => False) := by
  refine Met.ofW (cc := cX1_value) (maxL := 2) (ret := (some .long)) (by decide) rfl ?_
  intro p e s m args below meth c s₁ B hml hv
  obtain ⟨rfl, hH, hK, hN, hO⟩ := hv
  have hx := B.exec
  have hb := B.bytes
  have hr := B.returns
  have hts : ∀ w ∈ tT, w.before _ s = true := fun w h => atoms_spec (ws := tC yX1_value cX1_value 2 (some .long)) B.pre w (List.mem_cons_of_mem _ h)
  have hown : s.vm.findClass RX1 = some m.cls := findClass_of_methodNamed B.named
  have hlocks := B.notSynchronized
  have C : cx RX1 D K p s m _ c cX1_value := ⟨hx, hb, hown, hts, hK, hN, hO⟩
  have hR : rmOk (headSpec (tC yX1_value cX1_value 2 (some .long)) (rmK 1 0 0)).room 1 0 0 := ⟨Nat.le_refl _, Nat.le_refl _, Nat.le_refl _, Nat.le_refl _⟩
  subst hH
  have hl := lv_entry ([.ref (o 0), .int (nI q)]) (n := 2) (Nat.le_of_ble_eq_true rfl)
  rw [lg_entry_eq]
  generalize (lg_sl ([.ref (o 0), .int (nI q)]) ++ List.replicate (2 - (lg_sl ([.ref (o 0), .int (nI q)])).length) Slot.unset).toArray = ls at hl ⊢
  have hl : lv_has ls 2 [(0, .ref (o 0)), (1, .int (nI q))] := hl
  refine lv_iload_n hx hb dX1_value_0 rfl (lv_at hl 1 rfl) ?_
  refine pv (va_runS (As := [.int (nI q)]) (rest := []) ⟨hx, hb, hml, hown, hts⟩ (cD_isPosition l (nI q)) (cwS 1 hts gD_29 rfl rfl rfl (by decide +kernel) (rmF hR (by decide) (by decide))) (kP_S C) rfl rfl hl.1 rfl (lv_room (Nat.le_of_ble_eq_true rfl)) dX1_value_1 ⟨hR.2.2.1, hR.2.2.2⟩) ?_
  refine lv_if_eq (tgt := 16) hx hb dX1_value_4 (by decide) (fun c1 => ?_) (fun c1 => ?_)
  · have c1 : (isP (nI q)) = false := (bI_z (isP (nI q))).mp c1
    exact absurd ((isP_nI hq3).symm.trans c1) (by decide)
  · have c1 : (isP (nI q)) = true := (bI_nz (isP (nI q))).mp c1
    refine lv_aload_n hx hb dX1_value_7 rfl (lv_at hl 0 rfl) ?_
    refine gD_values C hP dX1_value_8 ?_
    refine lv_iload_n hx hb dX1_value_11 rfl (lv_at hl 1 rfl) ?_
    refine lD_values C hP (by omega) dX1_value_12 ?_
    refine lv_goto (tgt := 17) hx hb dX1_value_13 (by decide) ?_
    exact W.lret (v := va q) hx hb hr (fun t ht _ => ⟨rfl, ht⟩) (fun q h => by cases h) dX1_value_17
set_option maxHeartbeats 1000000 in
set_option maxRecDepth 100000 in
theorem cD_netOf_no (l : Launch) (hP : va_P D vwCl (dW R o K ad va fl af bl n tc sc T S us ps am) H) (hn200 : n ≤ 200) (x y : Int32) (h : nT n T x) : Met l yX1_netOf (tC yX1_netOf cX1_netOf 4 (some .long)) (rmK 2 0 0) (kP D K H [.ref (o 0), .int x, .int y]) (k2_QcV (.long 0)) 0 0 (fun _ => False) := by
  refine Met.ofW (cc := cX1_netOf) (maxL := 4) (ret := (some .long)) (by decide) rfl ?_
  intro p e s m args below meth c s₁ B hml hv
  obtain ⟨rfl, hH, hK, hN, hO⟩ := hv
  have hx := B.exec
  have hb := B.bytes
  have hr := B.returns
  have hts : ∀ w ∈ tT, w.before _ s = true := fun w h => atoms_spec (ws := tC yX1_netOf cX1_netOf 4 (some .long)) B.pre w (List.mem_cons_of_mem _ h)
  have hown : s.vm.findClass RX1 = some m.cls := findClass_of_methodNamed B.named
  have hlocks := B.notSynchronized
  have C : cx RX1 D K p s m _ c cX1_netOf := ⟨hx, hb, hown, hts, hK, hN, hO⟩
  have hR : rmOk (headSpec (tC yX1_netOf cX1_netOf 4 (some .long)) (rmK 2 0 0)).room 2 0 0 := ⟨Nat.le_refl _, Nat.le_refl _, Nat.le_refl _, Nat.le_refl _⟩
  subst hH
  have hl := lv_entry ([.ref (o 0), .int x, .int y]) (n := 4) (Nat.le_of_ble_eq_true rfl)
  rw [lg_entry_eq]
  generalize (lg_sl ([.ref (o 0), .int x, .int y]) ++ List.replicate (4 - (lg_sl ([.ref (o 0), .int x, .int y])).length) Slot.unset).toArray = ls at hl ⊢
  have hl : lv_has ls 4 [(0, .ref (o 0)), (1, .int x), (2, .int y)] := hl
  refine lv_aload_n hx hb dX1_netOf_0 rfl (lv_at hl 0 rfl) ?_
  refine lv_iload_n hx hb dX1_netOf_1 rfl (lv_at hl 1 rfl) ?_
  refine pv (va_runV (As := [.int x]) (rest := []) ⟨hx, hb, hml, hown, hts⟩ (cD_itemThere_no l hP hn200 x h) (cwV 1 hts gD_45 rfl rfl rfl (by decide +kernel) (rmF hR (by decide) (by decide))) (kP_V C (va_recv C.2.2.2.2.1 hP (ci := ciD) (q0 := 0) rfl rfl)) rfl rfl hl.1 rfl (lv_room (Nat.le_of_ble_eq_true rfl)) dX1_netOf_2 ⟨hR.2.2.1, hR.2.2.2⟩) ?_
  refine lv_astore_nN (lv' := [(3, .null), (0, .ref (o 0)), (1, .int x), (2, .int y)]) hx hb dX1_netOf_5 rfl hl (by decide) rfl (fun ls hl => ?_)
  refine lv_aload_nN hx hb dX1_netOf_6 rfl (lv_at hl 0 rfl) ?_
  refine lv_ifnonnullN hx hb dX1_netOf_7 ?_
  refine lv_lconst (v := 0) hx hb dX1_netOf_10 (by decide) ?_
  refine lv_goto (tgt := 19) hx hb dX1_netOf_11 (by decide) ?_
  exact W.lret (v := 0) hx hb hr (fun t ht _ => ⟨rfl, ht⟩) (fun q h => by cases h) dX1_netOf_19
set_option maxHeartbeats 1000000 in
set_option maxRecDepth 100000 in
theorem cD_netOf (l : Launch) (hP : va_P D vwCl (dW R o K ad va fl af bl n tc sc T S us ps am) H) (hn200 : n ≤ 200) {i : Nat} (hi : i < n) (hT : T i = true) (hu : us i ≤ 16) (y : Int32) : Met l yX1_netOf (tC yX1_netOf cX1_netOf 4 (some .long)) (rmK 2 0 0) (kP D K H [.ref (o 0), .int (nI i), .int y]) (k2_QcV (.long (ntq (qx (ps i) y) (us i) (am i)))) 0 0 (fun _ => False) := by
  refine Met.ofW (cc := cX1_netOf) (maxL := 4) (ret := (some .long)) (by decide) rfl ?_
  intro p e s m args below meth c s₁ B hml hv
  obtain ⟨rfl, hH, hK, hN, hO⟩ := hv
  have hx := B.exec
  have hb := B.bytes
  have hr := B.returns
  have hts : ∀ w ∈ tT, w.before _ s = true := fun w h => atoms_spec (ws := tC yX1_netOf cX1_netOf 4 (some .long)) B.pre w (List.mem_cons_of_mem _ h)
  have hown : s.vm.findClass RX1 = some m.cls := findClass_of_methodNamed B.named
  have hlocks := B.notSynchronized
  have C : cx RX1 D K p s m _ c cX1_netOf := ⟨hx, hb, hown, hts, hK, hN, hO⟩
  have hR : rmOk (headSpec (tC yX1_netOf cX1_netOf 4 (some .long)) (rmK 2 0 0)).room 2 0 0 := ⟨Nat.le_refl _, Nat.le_refl _, Nat.le_refl _, Nat.le_refl _⟩
  subst hH
  have hl := lv_entry ([.ref (o 0), .int (nI i), .int y]) (n := 4) (Nat.le_of_ble_eq_true rfl)
  rw [lg_entry_eq]
  generalize (lg_sl ([.ref (o 0), .int (nI i), .int y]) ++ List.replicate (4 - (lg_sl ([.ref (o 0), .int (nI i), .int y])).length) Slot.unset).toArray = ls at hl ⊢
  have hl : lv_has ls 4 [(0, .ref (o 0)), (1, .int (nI i)), (2, .int y)] := hl
  refine lv_aload_n hx hb dX1_netOf_0 rfl (lv_at hl 0 rfl) ?_
  refine lv_iload_n hx hb dX1_netOf_1 rfl (lv_at hl 1 rfl) ?_
  refine pv (va_runV (As := [.int (nI i)]) (rest := []) ⟨hx, hb, hml, hown, hts⟩ (cD_itemThere l hP hn200 hi hT) (cwV 1 hts gD_45 rfl rfl rfl (by decide +kernel) (rmF hR (by decide) (by decide))) (kP_V C (va_recv C.2.2.2.2.1 hP (ci := ciD) (q0 := 0) rfl rfl)) rfl rfl hl.1 rfl (lv_room (Nat.le_of_ble_eq_true rfl)) dX1_netOf_2 ⟨hR.2.2.1, hR.2.2.2⟩) ?_
  refine lv_astore_n (lv' := [(3, .ref ((ad i).1)), (0, .ref (o 0)), (1, .int (nI i)), (2, .int y)]) hx hb dX1_netOf_5 rfl hl (by decide) rfl (fun ls hl => ?_)
  refine lv_aload_n hx hb dX1_netOf_6 rfl (lv_at hl 0 rfl) ?_
  refine lv_ifnonnull (tgt := 14) hx hb dX1_netOf_7 (by decide) ?_
  refine lv_aload_n hx hb dX1_netOf_14 rfl (lv_at hl 0 rfl) ?_
  refine lv_iload_n hx hb dX1_netOf_15 rfl (lv_at hl 3 rfl) ?_
  refine pv (va_runVN (As := [.int y]) (rest := []) ⟨hx, hb, hml, hown, hts⟩ (cI_amountFor l hP hi hu y) ⟨va_cnB 1 hts gD_82.1 rfl rfl rfl (C.2.2.2.2.2.1 _ gD_82.2.1) (hts _ gD_82.2.2.1) (by decide +kernel) (rmF hR (by decide) (by decide)), hts _ gD_82.2.2.2.1, hts _ gD_82.2.2.2.2⟩ (kP_V C (va_recv C.2.2.2.2.1 hP (ci := ciI) (q0 := 6 + (R.length + 3 * i)) rfl (dW_0 hi))) rfl rfl hl.1 rfl (lv_room (Nat.le_of_ble_eq_true rfl)) dX1_netOf_16 ⟨hR.2.2.1, hR.2.2.2⟩) ?_
  exact W.lret (v := ntq (qx (ps i) y) (us i) (am i)) hx hb hr (fun t ht _ => ⟨rfl, ht⟩) (fun q h => by cases h) dX1_netOf_19
set_option maxHeartbeats 1000000 in
set_option maxRecDepth 100000 in
theorem cD_count (l : Launch) (hP : va_P D vwCl (dW R o K ad va fl af bl n tc sc T S us ps am) H) (x : Int32) : Met l yX1_count (tC yX1_count cX1_count 2 (some .int)) (rmK 0 0 0) (kP D K H [.ref (o 0), .int x]) (k2_QcV (.int (cntS x n tc sc))) 0 0 (fun _ => False) := by
  refine Met.ofW (cc := cX1_count) (maxL := 2) (ret := (some .int)) (by decide) rfl ?_
  intro p e s m args below meth c s₁ B hml hv
  obtain ⟨rfl, hH, hK, hN, hO⟩ := hv
  have hx := B.exec
  have hb := B.bytes
  have hr := B.returns
  have hts : ∀ w ∈ tT, w.before _ s = true := fun w h => atoms_spec (ws := tC yX1_count cX1_count 2 (some .int)) B.pre w (List.mem_cons_of_mem _ h)
  have hown : s.vm.findClass RX1 = some m.cls := findClass_of_methodNamed B.named
  have hlocks := B.notSynchronized
  have C : cx RX1 D K p s m _ c cX1_count := ⟨hx, hb, hown, hts, hK, hN, hO⟩
  have hR : rmOk (headSpec (tC yX1_count cX1_count 2 (some .int)) (rmK 0 0 0)).room 0 0 0 := ⟨Nat.le_refl _, Nat.le_refl _, Nat.le_refl _, Nat.le_refl _⟩
  subst hH
  have hl := lv_entry ([.ref (o 0), .int x]) (n := 2) (Nat.le_of_ble_eq_true rfl)
  rw [lg_entry_eq]
  generalize (lg_sl ([.ref (o 0), .int x]) ++ List.replicate (2 - (lg_sl ([.ref (o 0), .int x])).length) Slot.unset).toArray = ls at hl ⊢
  have hl : lv_has ls 2 [(0, .ref (o 0)), (1, .int x)] := hl
  refine lv_iload_n hx hb dX1_count_0 rfl (lv_at hl 1 rfl) ?_
  by_cases h0 : x = nI 0
  · subst h0
    refine lv_tableIn (off := 27) (tgt := 28) hx hb dX1_count_1 (by decide) (by decide) (by decide) (by decide) ?_
    refine lv_aload_n hx hb dX1_count_28 rfl (lv_at hl 0 rfl) ?_
    refine gD_itemCount C hP dX1_count_29 ?_
    exact W.iret (v := nI n) hx hb hr (fun t ht _ => ⟨rti (by unfold cntS; rw [if_pos rfl]), ht⟩) (fun q h => by cases h) dX1_count_32
  by_cases h1 : x = nI 1
  · subst h1
    refine lv_tableIn (off := 32) (tgt := 33) hx hb dX1_count_1 (by decide) (by decide) (by decide) (by decide) ?_
    refine lv_aload_n hx hb dX1_count_33 rfl (lv_at hl 0 rfl) ?_
    refine gD_thereCount C hP dX1_count_34 ?_
    exact W.iret (v := nI tc) hx hb hr (fun t ht _ => ⟨rti (by unfold cntS; rw [if_neg (by decide), if_pos rfl]), ht⟩) (fun q h => by cases h) dX1_count_37
  by_cases h2 : x = nI 2
  · subst h2
    refine lv_tableIn (off := 37) (tgt := 38) hx hb dX1_count_1 (by decide) (by decide) (by decide) (by decide) ?_
    refine lv_aload_n hx hb dX1_count_38 rfl (lv_at hl 0 rfl) ?_
    refine gD_setCount C hP dX1_count_39 ?_
    exact W.iret (v := nI sc) hx hb hr (fun t ht _ => ⟨rti (by unfold cntS; rw [if_neg (by decide), if_neg (by decide), if_pos rfl]), ht⟩) (fun q h => by cases h) dX1_count_42
  have n0 := lv_neT h0 (a := 0) (by decide)
  have n1 := lv_neT h1 (a := 1) (by decide)
  have n2 := lv_neT h2 (a := 2) (by decide)
  refine lv_tableOut (tgt := 43) hx hb dX1_count_1 (by omega) (by decide) ?_
  refine lv_iconst (v := (-1)) hx hb dX1_count_43 (by decide) ?_
  exact W.iret (v := (-1)) hx hb hr (fun t ht _ => ⟨rti (by unfold cntS; rw [if_neg h0, if_neg h1, if_neg h2]), ht⟩) (fun q h => by cases h) dX1_count_44
end MD1
