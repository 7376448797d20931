/-! THE LAW: its ten calls -/
def lw2 (a b : Int32) : Int64 := (a.toInt64 <<< ((nI 32).toInt64 &&& 63)) ||| (b.toInt64 &&& 4294967295)
section LW0
variable {D : va_G} {K : Nat → ClassId} {H : Heap} {A : Nat → Prop} {o o' : Nat → Nat} {ad : Nat → Nat × Nat × Nat} {va fl af : Nat → Int64} {bl : Nat → Bool} {n n' tc sc : Nat} {T S : Nat → Bool} {us : Nat → Nat} {ps : Nat → Nat → Nat} {am : Nat → Nat → Int64} {va' fl' : Nat → Int64} {th ch : Nat → Bool} {mn po : Nat → Nat} {an : Nat → Int64}
/-- the class's six cells alone -/
abbrev d6 (o : Nat → Nat) (K : Nat → ClassId) (ad : Nat → Nat × Nat × Nat) (va fl af : Nat → Int64) (bl : Nat → Bool) (n tc sc : Nat) : va_W := dR [] o K va fl af bl (itf n ad) n tc sc []
theorem dmP (h : va_P D vwCl (dW (mW [] o' K va' fl' n' th ch mn po an) o K ad va fl af bl n tc sc T S us ps am) H) : va_P D vwCl (mW (it_w K ad T S us ps am n ++ d6 o K ad va fl af bl n tc sc) o' K va' fl' n' th ch mn po an) H :=
  va_P.swap (a := []) (b := d6 o K ad va fl af bl n tc sc) (c := mW (it_w K ad T S us ps am n) o' K va' fl' n' th ch mn po an) h
theorem dmD (h : va_D A (dW (mW [] o' K va' fl' n' th ch mn po an) o K ad va fl af bl n tc sc T S us ps am)) : va_D A (mW (it_w K ad T S us ps am n ++ d6 o K ad va fl af bl n tc sc) o' K va' fl' n' th ch mn po an) :=
  va_D.swap (a := []) (b := d6 o K ad va fl af bl n tc sc) (c := mW (it_w K ad T S us ps am n) o' K va' fl' n' th ch mn po an) h
theorem mdP (h : va_P D vwCl (mW (it_w K ad T S us ps am n ++ d6 o K ad va fl af bl n tc sc) o' K va' fl' n' th ch mn po an) H) : va_P D vwCl (dW (mW [] o' K va' fl' n' th ch mn po an) o K ad va fl af bl n tc sc T S us ps am) H :=
  va_P.swap (a := []) (b := mW (it_w K ad T S us ps am n) o' K va' fl' n' th ch mn po an) (c := d6 o K ad va fl af bl n tc sc) h
theorem mdD (h : va_D A (mW (it_w K ad T S us ps am n ++ d6 o K ad va fl af bl n tc sc) o' K va' fl' n' th ch mn po an)) : va_D A (dW (mW [] o' K va' fl' n' th ch mn po an) o K ad va fl af bl n tc sc T S us ps am) :=
  va_D.swap (a := []) (b := mW (it_w K ad T S us ps am n) o' K va' fl' n' th ch mn po an) (c := d6 o K ad va fl af bl n tc sc) h
theorem nT_congr (h : ∀ i, i < n → T i = th i) {x : Int32} (hx : nT n T x) : nT n th x := by
  rcases hx with q | q | ⟨i, hi, e, hT⟩
  · exact Or.inl q
  · exact Or.inr (Or.inl q)
  · exact Or.inr (Or.inr ⟨i, hi, e, by rw [← h i hi]; exact hT⟩)
theorem ntq_out {ps : Nat → Nat} {u : Nat} {am : Nat → Int64} {y : Int32} (hp : ∀ k, k < u → ps k < 300) (hy : isP y = false) : ntq (qx ps y) u am = 0 := by
  have e : fs (qx ps y) u 0 = u := fs_no (fun j hj => decide_eq_false (fun z => by
    rw [← z, isP_nI (hp j hj)] at hy
    cases hy))
  unfold ntq
  rw [e, if_neg (Nat.lt_irrefl u)]
/-- what the reference's totals are, where the class's row after is the set done -/
theorem tot_eq (Lh : LI va fl n tc sc T S us ps am va' fl' th ch mn po an) (haf : ∀ q, q < 300 → (af q).toInt = (va q).toInt + sm (gd_T (nvS us ps am) S q) n) : ∀ q, q < 300 → m_tot mn po an va' ch q n = af q := by
  intro q hq
  rw [← Int64.toInt_inj, m_tot_v (LI_model Lh) ch hq n (Nat.le_refl n), haf q hq, LI_gT Lh q, (Lh.2.2.2.1 q hq).1]
theorem cn_200 (Lh : LI va fl n tc sc T S us ps am va' fl' th ch mn po an) : cn ch 200 = sc ∧ cn th 200 = tc := by
  obtain ⟨h1, h2, h3, -, h5, h6⟩ := Lh
  constructor
  · rw [cn_tail 200 h1.1 (fun k hk _ => (h6 k hk).2.1), h3]
    exact (cn_congr (fun k hk => (h5 k hk).2.1)).symm
  · rw [cn_tail 200 h1.1 (fun k hk _ => (h6 k hk).1), h2]
    exact (cn_congr (fun k hk => (h5 k hk).1)).symm
end LW0
section LAWC
variable {p : Program} {l : Launch} {e : Env} {s : State} {m : MethodId} {below : List Frame} {meth : Method} {c : Code} {b L t : Nat} {xs : Nat → Int32} {Q : State → Prop} {D : va_G} {K : Nat → ClassId} {H : Heap} {locs : List Loc} {ls : Array Slot} {cells slots : Nat} {o o' : Nat → Nat} {ad : Nat → Nat × Nat × Nat} {va fl af : Nat → Int64} {bl : Nat → Bool} {n tc sc : Nat} {T S : Nat → Bool} {us : Nat → Nat} {ps : Nat → Nat → Nat} {am : Nat → Nat → Int64} {va' fl' : Nat → Int64} {th ch : Nat → Bool} {mn po : Nat → Nat} {an : Nat → Int64}
/-- the script's places -/
theorem ldx {k pc : Nat} {rest : List Value} (hx : p.tables.exec = Jvm.exec) (hb : c.code = code) (hX : va_X b L xs s s.heap) (hbl : b < s.heap.size) (hS : va_S (fun q => s.heap.size ≤ q) s.heap H locs) (hk : k < L) (hL3 : L ≤ 3072) (hdg : decode code pc = .ok (.iaload, 1)) (kk : W p l e room_1 s m #[Value.ref b] below meth c H locs cells slots Q (F0 m (pc + 1) ls (.int (xs k) :: rest))) : W p l e room_1 s m #[Value.ref b] below meth c H locs cells slots Q (F0 m pc ls (.int (nI k) :: .ref b :: rest)) := by
  refine va_sld (A := fun q => s.heap.size ≤ q) hx hb hX hbl (Nat.not_le.mpr hbl) hS (vp_in_nI hk (by omega)) hdg ?_
  rw [nI_clamp (by omega)]
  exact kk
/-- what the law stands on -/
def lC (D : va_G) (K : Nat → ClassId) (p : Program) (s : State) (m : MethodId) (c : Code) (b L : Nat) (xs : Nat → Int32) : Prop := cx RL D K p s m #[Value.ref b] c code ∧ c.maxLocals = 4 ∧ va_X b L xs s s.heap ∧ b < s.heap.size ∧ L ≤ 3072
/-- behind a turn's calls -/
abbrev LK (p : Program) (l : Launch) (e : Env) (s : State) (m : MethodId) (below : List Frame) (meth : Method) (c : Code) (b t : Nat) (Q : State → Prop) (D : va_G) (K : Nat → ClassId) (o o' : Nat → Nat) (pc dc ds : Nat) : Prop :=
  ∀ {ad : Nat → Nat × Nat × Nat} {va fl af : Nat → Int64} {bl : Nat → Bool} {n tc sc : Nat} {T S : Nat → Bool} {us : Nat → Nat} {ps : Nat → Nat → Nat} {am : Nat → Nat → Int64} {va' fl' : Nat → Int64} {th ch : Nat → Bool} {mn po : Nat → Nat} {an : Nat → Int64} {H : Heap} {locs : List Loc} {ls : Array Slot} {cells slots : Nat},
    LI va fl n tc sc T S us ps am va' fl' th ch mn po an → va_P D vwCl (dW (mW [] o' K va' fl' n th ch mn po an) o K ad va fl af bl n tc sc T S us ps am) H → va_D (fun q => s.heap.size ≤ q) (dW (mW [] o' K va' fl' n th ch mn po an) o K ad va fl af bl n tc sc T S us ps am) → va_S (fun q => s.heap.size ≤ q) s.heap H locs → lv_has ls 4 [(0, .ref b), (1, .ref (o 0)), (2, .ref (o' 0)), (3, .int (nI (6 * t)))] → cells ≤ 20 + 3 * t + dc → slots ≤ 20000 + 37 * t + ds → W p l e room_1 s m #[Value.ref b] below meth c H locs cells slots Q (F0 m pc ls [])
set_option maxHeartbeats 1000000 in
set_option maxRecDepth 100000 in
theorem law_count (G : lC D K p s m c b L xs) (ht : 6 * t + 6 ≤ L) (Lh : LI va fl n tc sc T S us ps am va' fl' th ch mn po an) (hP : va_P D vwCl (dW (mW [] o' K va' fl' n th ch mn po an) o K ad va fl af bl n tc sc T S us ps am) H) (hD : va_D (fun q => s.heap.size ≤ q) (dW (mW [] o' K va' fl' n th ch mn po an) o K ad va fl af bl n tc sc T S us ps am)) (hS : va_S (fun q => s.heap.size ≤ q) s.heap H locs) (hl : lv_has ls 4 [(0, .ref b), (1, .ref (o 0)), (2, .ref (o' 0)), (3, .int (nI (6 * t)))]) (hc : cells ≤ 20 + 3 * t) (hs : slots ≤ 20000 + 37 * t) (kk : LK p l e s m below meth c b t Q D K o o' 430 3 37) : W p l e room_1 s m #[Value.ref b] below meth c H locs cells slots Q (F0 m 407 ls []) := by
  obtain ⟨C, hml, hX, hbl, hL3⟩ := G
  have hx := C.1
  have hb := C.2.1
  have hown := C.2.2.1
  have hts := C.2.2.2.1
  have hR : rmOk room_1 8 0 0 := ⟨by decide, by decide, Nat.zero_le _, Nat.zero_le _⟩
  have hn200 : n ≤ 200 := Lh.1.1
  have hTt : ∀ i, i < n → T i = th i := fun i hi => (Lh.2.2.2.2.1 i hi).1
  refine lv_aload_n hx hb dL_law_407 rfl (lv_at hl 1 rfl) ?_
  refine lv_aload_n hx hb dL_law_408 rfl (lv_at hl 0 rfl) ?_
  refine lv_iload_n hx hb dL_law_409 rfl (lv_at hl 3 rfl) ?_
  refine lv_iconst (v := nI 1) hx hb dL_law_410 (by decide) ?_
  refine lv_iadd hx hb dL_law_411 ?_
  refine tp_i (y := nI ((6 * t) + 1)) (nI_add (6 * t) 1) ?_
  refine ldx hx hb hX hbl hS (by omega) hL3 dL_law_412 ?_
  refine pv (va_runV (As := [.int (xs ((6 * t) + 1))]) (rest := []) ⟨hx, hb, hml, hown, hts⟩ (cD_count l hP (xs ((6 * t) + 1))) (cwV 1 hts gL_57 rfl rfl rfl (by decide +kernel) (rmF hR (by decide) (by decide))) (kP_V C (va_recv C.2.2.2.2.1 hP (ci := ciD) (q0 := 0) rfl rfl)) rfl rfl hl.1 rfl (lv_room (Nat.le_of_ble_eq_true rfl)) dL_law_413 ⟨by show _ ≤ 600000; omega, by show _ ≤ 7302249; omega⟩) ?_
  refine lv_aload_n hx hb dL_law_416 rfl (lv_at hl 2 rfl) ?_
  refine lv_aload_n hx hb dL_law_417 rfl (lv_at hl 0 rfl) ?_
  refine lv_iload_n hx hb dL_law_418 rfl (lv_at hl 3 rfl) ?_
  refine lv_iconst (v := nI 1) hx hb dL_law_419 (by decide) ?_
  refine lv_iadd hx hb dL_law_420 ?_
  refine tp_i (y := nI ((6 * t) + 1)) (nI_add (6 * t) 1) ?_
  refine ldx hx hb hX hbl hS (by omega) hL3 dL_law_421 ?_
  refine pv (va_runV (As := [.int (xs ((6 * t) + 1))]) (rest := [.int (cntS (xs ((6 * t) + 1)) n tc sc)]) ⟨hx, hb, hml, hown, hts⟩ (cM_count l (dmP hP) (xs ((6 * t) + 1))) (cwV 1 hts gL_61 rfl rfl rfl (by decide +kernel) (rmF hR (by decide) (by decide))) (kP_V C (va_recv C.2.2.2.2.1 (dmP hP) (ci := ciM) (q0 := 0) rfl rfl)) rfl rfl hl.1 rfl (lv_room (Nat.le_of_ble_eq_true rfl)) dL_law_422 ⟨by show _ ≤ 600000; omega, by show _ ≤ 7302249; omega⟩) ?_
  refine lv_icmp_eq (tgt := 430) hx hb dL_law_425 (by decide) (fun c9 => ?_) (fun c9 => ?_)
  · exact kk (Lh) hP hD hS (lv_sub hl [0, 1, 2, 3] rfl) (by omega) (by omega)
  · exact absurd (by rw [(cn_200 Lh).1, (cn_200 Lh).2]) c9
set_option maxHeartbeats 1000000 in
set_option maxRecDepth 100000 in
theorem law_value (G : lC D K p s m c b L xs) (ht : 6 * t + 6 ≤ L) (Lh : LI va fl n tc sc T S us ps am va' fl' th ch mn po an) (hP : va_P D vwCl (dW (mW [] o' K va' fl' n th ch mn po an) o K ad va fl af bl n tc sc T S us ps am) H) (hD : va_D (fun q => s.heap.size ≤ q) (dW (mW [] o' K va' fl' n th ch mn po an) o K ad va fl af bl n tc sc T S us ps am)) (hS : va_S (fun q => s.heap.size ≤ q) s.heap H locs) (hl : lv_has ls 4 [(0, .ref b), (1, .ref (o 0)), (2, .ref (o' 0)), (3, .int (nI (6 * t)))]) (hc : cells ≤ 20 + 3 * t) (hs : slots ≤ 20000 + 37 * t) (kk : LK p l e s m below meth c b t Q D K o o' 430 3 37) : W p l e room_1 s m #[Value.ref b] below meth c H locs cells slots Q (F0 m 349 ls []) := by
  obtain ⟨C, hml, hX, hbl, hL3⟩ := G
  have hx := C.1
  have hb := C.2.1
  have hown := C.2.2.1
  have hts := C.2.2.2.1
  have hR : rmOk room_1 8 0 0 := ⟨by decide, by decide, Nat.zero_le _, Nat.zero_le _⟩
  have hn200 : n ≤ 200 := Lh.1.1
  have hTt : ∀ i, i < n → T i = th i := fun i hi => (Lh.2.2.2.2.1 i hi).1
  cases hp : isP (xs (6 * t + 1)) with
  | false =>
    refine lv_aload_n hx hb dL_law_349 rfl (lv_at hl 1 rfl) ?_
    refine lv_aload_n hx hb dL_law_350 rfl (lv_at hl 0 rfl) ?_
    refine lv_iload_n hx hb dL_law_351 rfl (lv_at hl 3 rfl) ?_
    refine lv_iconst (v := nI 1) hx hb dL_law_352 (by decide) ?_
    refine lv_iadd hx hb dL_law_353 ?_
    refine tp_i (y := nI ((6 * t) + 1)) (nI_add (6 * t) 1) ?_
    refine ldx hx hb hX hbl hS (by omega) hL3 dL_law_354 ?_
    refine pv (va_runV (As := [.int (xs ((6 * t) + 1))]) (rest := []) ⟨hx, hb, hml, hown, hts⟩ (cD_value_no l hP (xs (6 * t + 1)) hp) (cwV 1 hts gL_47 rfl rfl rfl (by decide +kernel) (rmF hR (by decide) (by decide))) (kP_V C (va_recv C.2.2.2.2.1 hP (ci := ciD) (q0 := 0) rfl rfl)) rfl rfl hl.1 rfl (lv_room (Nat.le_of_ble_eq_true rfl)) dL_law_355 ⟨by show _ ≤ 600000; omega, by show _ ≤ 7302249; omega⟩) ?_
    refine lv_aload_n hx hb dL_law_358 rfl (lv_at hl 2 rfl) ?_
    refine lv_aload_n hx hb dL_law_359 rfl (lv_at hl 0 rfl) ?_
    refine lv_iload_n hx hb dL_law_360 rfl (lv_at hl 3 rfl) ?_
    refine lv_iconst (v := nI 1) hx hb dL_law_361 (by decide) ?_
    refine lv_iadd hx hb dL_law_362 ?_
    refine tp_i (y := nI ((6 * t) + 1)) (nI_add (6 * t) 1) ?_
    refine ldx hx hb hX hbl hS (by omega) hL3 dL_law_363 ?_
    refine pv (va_runV (As := [.int (xs ((6 * t) + 1))]) (rest := [.long ((0 : Int64))]) ⟨hx, hb, hml, hown, hts⟩ (cM_value_no l (dmP hP) (xs (6 * t + 1)) hp) (cwV 1 hts gL_51 rfl rfl rfl (by decide +kernel) (rmF hR (by decide) (by decide))) (kP_V C (va_recv C.2.2.2.2.1 (dmP hP) (ci := ciM) (q0 := 0) rfl rfl)) rfl rfl hl.1 rfl (lv_room (Nat.le_of_ble_eq_true rfl)) dL_law_364 ⟨by show _ ≤ 600000; omega, by show _ ≤ 7302249; omega⟩) ?_
    refine W.lcmp hx hb dL_law_367 ?_
    refine lv_if_eq (tgt := 430) hx hb dL_law_368 (by decide) (fun c9 => ?_) (fun c9 => ?_)
    · have c9 : ((0 : Int64)) = ((0 : Int64)) := (lg_cmp_eq ((0 : Int64)) ((0 : Int64))).mp c9
      exact kk (Lh) hP hD hS (lv_sub hl [0, 1, 2, 3] rfl) (by omega) (by omega)
    · have c9 : ¬ ((0 : Int64)) = ((0 : Int64)) := fun z9 => c9 ((lg_cmp_eq ((0 : Int64)) ((0 : Int64))).mpr z9)
      exact absurd (rfl) c9
  | true =>
    obtain ⟨g, hg, eg⟩ := isP_of hp
    refine lv_aload_n hx hb dL_law_349 rfl (lv_at hl 1 rfl) ?_
    refine lv_aload_n hx hb dL_law_350 rfl (lv_at hl 0 rfl) ?_
    refine lv_iload_n hx hb dL_law_351 rfl (lv_at hl 3 rfl) ?_
    refine lv_iconst (v := nI 1) hx hb dL_law_352 (by decide) ?_
    refine lv_iadd hx hb dL_law_353 ?_
    refine tp_i (y := nI ((6 * t) + 1)) (nI_add (6 * t) 1) ?_
    refine ldx hx hb hX hbl hS (by omega) hL3 dL_law_354 ?_
    refine tp_i (y := nI g) (eg) ?_
    refine pv (va_runV (As := [.int (nI g)]) (rest := []) ⟨hx, hb, hml, hown, hts⟩ (cD_value l hP hg) (cwV 1 hts gL_47 rfl rfl rfl (by decide +kernel) (rmF hR (by decide) (by decide))) (kP_V C (va_recv C.2.2.2.2.1 hP (ci := ciD) (q0 := 0) rfl rfl)) rfl rfl hl.1 rfl (lv_room (Nat.le_of_ble_eq_true rfl)) dL_law_355 ⟨by show _ ≤ 600000; omega, by show _ ≤ 7302249; omega⟩) ?_
    refine lv_aload_n hx hb dL_law_358 rfl (lv_at hl 2 rfl) ?_
    refine lv_aload_n hx hb dL_law_359 rfl (lv_at hl 0 rfl) ?_
    refine lv_iload_n hx hb dL_law_360 rfl (lv_at hl 3 rfl) ?_
    refine lv_iconst (v := nI 1) hx hb dL_law_361 (by decide) ?_
    refine lv_iadd hx hb dL_law_362 ?_
    refine tp_i (y := nI ((6 * t) + 1)) (nI_add (6 * t) 1) ?_
    refine ldx hx hb hX hbl hS (by omega) hL3 dL_law_363 ?_
    refine tp_i (y := nI g) (eg) ?_
    refine pv (va_runV (As := [.int (nI g)]) (rest := [.long (va g)]) ⟨hx, hb, hml, hown, hts⟩ (cM_value l (dmP hP) hg) (cwV 1 hts gL_51 rfl rfl rfl (by decide +kernel) (rmF hR (by decide) (by decide))) (kP_V C (va_recv C.2.2.2.2.1 (dmP hP) (ci := ciM) (q0 := 0) rfl rfl)) rfl rfl hl.1 rfl (lv_room (Nat.le_of_ble_eq_true rfl)) dL_law_364 ⟨by show _ ≤ 600000; omega, by show _ ≤ 7302249; omega⟩) ?_
    refine W.lcmp hx hb dL_law_367 ?_
    refine lv_if_eq (tgt := 430) hx hb dL_law_368 (by decide) (fun c9 => ?_) (fun c9 => ?_)
    · have c9 : (va g) = (va' g) := (lg_cmp_eq (va g) (va' g)).mp c9
      exact kk (Lh) hP hD hS (lv_sub hl [0, 1, 2, 3] rfl) (by omega) (by omega)
    · have c9 : ¬ (va g) = (va' g) := fun z9 => c9 ((lg_cmp_eq (va g) (va' g)).mpr z9)
      exact absurd ((Lh.2.2.2.1 g hg).1) c9
set_option maxHeartbeats 1000000 in
set_option maxRecDepth 100000 in
theorem law_in (G : lC D K p s m c b L xs) (ht : 6 * t + 6 ≤ L) (Lh : LI va fl n tc sc T S us ps am va' fl' th ch mn po an) (hP : va_P D vwCl (dW (mW [] o' K va' fl' n th ch mn po an) o K ad va fl af bl n tc sc T S us ps am) H) (hD : va_D (fun q => s.heap.size ≤ q) (dW (mW [] o' K va' fl' n th ch mn po an) o K ad va fl af bl n tc sc T S us ps am)) (hS : va_S (fun q => s.heap.size ≤ q) s.heap H locs) (hl : lv_has ls 4 [(0, .ref b), (1, .ref (o 0)), (2, .ref (o' 0)), (3, .int (nI (6 * t)))]) (hc : cells ≤ 20 + 3 * t) (hs : slots ≤ 20000 + 37 * t) (kk : LK p l e s m below meth c b t Q D K o o' 430 3 37) : W p l e room_1 s m #[Value.ref b] below meth c H locs cells slots Q (F0 m 313 ls []) := by
  obtain ⟨C, hml, hX, hbl, hL3⟩ := G
  have hx := C.1
  have hb := C.2.1
  have hown := C.2.2.1
  have hts := C.2.2.2.1
  have hR : rmOk room_1 8 0 0 := ⟨by decide, by decide, Nat.zero_le _, Nat.zero_le _⟩
  have hn200 : n ≤ 200 := Lh.1.1
  have hTt : ∀ i, i < n → T i = th i := fun i hi => (Lh.2.2.2.2.1 i hi).1
  rcases pk_ix (xs (6 * t + 1)) (n := n) (by omega) with h | h | ⟨i, hi, ei⟩
  · refine lv_aload_n hx hb dL_law_313 rfl (lv_at hl 1 rfl) ?_
    refine lv_aload_n hx hb dL_law_314 rfl (lv_at hl 0 rfl) ?_
    refine lv_iload_n hx hb dL_law_315 rfl (lv_at hl 3 rfl) ?_
    refine lv_iconst (v := nI 1) hx hb dL_law_316 (by decide) ?_
    refine lv_iadd hx hb dL_law_317 ?_
    refine tp_i (y := nI ((6 * t) + 1)) (nI_add (6 * t) 1) ?_
    refine ldx hx hb hX hbl hS (by omega) hL3 dL_law_318 ?_
    refine pv (va_runV (As := [.int (xs ((6 * t) + 1))]) (rest := []) ⟨hx, hb, hml, hown, hts⟩ (cD_in_no l hP (xs (6 * t + 1)) (Or.inl h)) (cwV 1 hts gL_39 rfl rfl rfl (by decide +kernel) (rmF hR (by decide) (by decide))) (kP_V C (va_recv C.2.2.2.2.1 hP (ci := ciD) (q0 := 0) rfl rfl)) rfl rfl hl.1 rfl (lv_room (Nat.le_of_ble_eq_true rfl)) dL_law_319 ⟨by show _ ≤ 600000; omega, by show _ ≤ 7302249; omega⟩) ?_
    refine lv_aload_n hx hb dL_law_322 rfl (lv_at hl 2 rfl) ?_
    refine lv_aload_n hx hb dL_law_323 rfl (lv_at hl 0 rfl) ?_
    refine lv_iload_n hx hb dL_law_324 rfl (lv_at hl 3 rfl) ?_
    refine lv_iconst (v := nI 1) hx hb dL_law_325 (by decide) ?_
    refine lv_iadd hx hb dL_law_326 ?_
    refine tp_i (y := nI ((6 * t) + 1)) (nI_add (6 * t) 1) ?_
    refine ldx hx hb hX hbl hS (by omega) hL3 dL_law_327 ?_
    refine pv (va_runV (As := [.int (xs ((6 * t) + 1))]) (rest := [.int (nI 0)]) ⟨hx, hb, hml, hown, hts⟩ (cM_in_no l (dmP hP) (xs (6 * t + 1)) (Or.inl h)) (cwV 1 hts gL_42 rfl rfl rfl (by decide +kernel) (rmF hR (by decide) (by decide))) (kP_V C (va_recv C.2.2.2.2.1 (dmP hP) (ci := ciM) (q0 := 0) rfl rfl)) rfl rfl hl.1 rfl (lv_room (Nat.le_of_ble_eq_true rfl)) dL_law_328 ⟨by show _ ≤ 600000; omega, by show _ ≤ 7302249; omega⟩) ?_
    refine lv_icmp_eq (tgt := 430) hx hb dL_law_331 (by decide) (fun c9 => ?_) (fun c9 => ?_)
    · exact kk (Lh) hP hD hS (lv_sub hl [0, 1, 2, 3] rfl) (by omega) (by omega)
    · exact absurd (rfl) c9
  · refine lv_aload_n hx hb dL_law_313 rfl (lv_at hl 1 rfl) ?_
    refine lv_aload_n hx hb dL_law_314 rfl (lv_at hl 0 rfl) ?_
    refine lv_iload_n hx hb dL_law_315 rfl (lv_at hl 3 rfl) ?_
    refine lv_iconst (v := nI 1) hx hb dL_law_316 (by decide) ?_
    refine lv_iadd hx hb dL_law_317 ?_
    refine tp_i (y := nI ((6 * t) + 1)) (nI_add (6 * t) 1) ?_
    refine ldx hx hb hX hbl hS (by omega) hL3 dL_law_318 ?_
    refine pv (va_runV (As := [.int (xs ((6 * t) + 1))]) (rest := []) ⟨hx, hb, hml, hown, hts⟩ (cD_in_no l hP (xs (6 * t + 1)) (Or.inr h)) (cwV 1 hts gL_39 rfl rfl rfl (by decide +kernel) (rmF hR (by decide) (by decide))) (kP_V C (va_recv C.2.2.2.2.1 hP (ci := ciD) (q0 := 0) rfl rfl)) rfl rfl hl.1 rfl (lv_room (Nat.le_of_ble_eq_true rfl)) dL_law_319 ⟨by show _ ≤ 600000; omega, by show _ ≤ 7302249; omega⟩) ?_
    refine lv_aload_n hx hb dL_law_322 rfl (lv_at hl 2 rfl) ?_
    refine lv_aload_n hx hb dL_law_323 rfl (lv_at hl 0 rfl) ?_
    refine lv_iload_n hx hb dL_law_324 rfl (lv_at hl 3 rfl) ?_
    refine lv_iconst (v := nI 1) hx hb dL_law_325 (by decide) ?_
    refine lv_iadd hx hb dL_law_326 ?_
    refine tp_i (y := nI ((6 * t) + 1)) (nI_add (6 * t) 1) ?_
    refine ldx hx hb hX hbl hS (by omega) hL3 dL_law_327 ?_
    rcases pk_ix (xs (6 * t + 1)) (n := 200) (by omega) with h2 | h2 | ⟨i, hi, ei⟩
    · refine pv (va_runV (As := [.int (xs ((6 * t) + 1))]) (rest := [.int (nI 0)]) ⟨hx, hb, hml, hown, hts⟩ (cM_in_no l (dmP hP) (xs (6 * t + 1)) (Or.inl h2)) (cwV 1 hts gL_42 rfl rfl rfl (by decide +kernel) (rmF hR (by decide) (by decide))) (kP_V C (va_recv C.2.2.2.2.1 (dmP hP) (ci := ciM) (q0 := 0) rfl rfl)) rfl rfl hl.1 rfl (lv_room (Nat.le_of_ble_eq_true rfl)) dL_law_328 ⟨by show _ ≤ 600000; omega, by show _ ≤ 7302249; omega⟩) ?_
      refine lv_icmp_eq (tgt := 430) hx hb dL_law_331 (by decide) (fun c9 => ?_) (fun c9 => ?_)
      · exact kk (Lh) hP hD hS (lv_sub hl [0, 1, 2, 3] rfl) (by omega) (by omega)
      · exact absurd (rfl) c9
    · refine pv (va_runV (As := [.int (xs ((6 * t) + 1))]) (rest := [.int (nI 0)]) ⟨hx, hb, hml, hown, hts⟩ (cM_in_no l (dmP hP) (xs (6 * t + 1)) (Or.inr h2)) (cwV 1 hts gL_42 rfl rfl rfl (by decide +kernel) (rmF hR (by decide) (by decide))) (kP_V C (va_recv C.2.2.2.2.1 (dmP hP) (ci := ciM) (q0 := 0) rfl rfl)) rfl rfl hl.1 rfl (lv_room (Nat.le_of_ble_eq_true rfl)) dL_law_328 ⟨by show _ ≤ 600000; omega, by show _ ≤ 7302249; omega⟩) ?_
      refine lv_icmp_eq (tgt := 430) hx hb dL_law_331 (by decide) (fun c9 => ?_) (fun c9 => ?_)
      · exact kk (Lh) hP hD hS (lv_sub hl [0, 1, 2, 3] rfl) (by omega) (by omega)
      · exact absurd (rfl) c9
    · have hni : n ≤ i := by
        rw [ei] at h
        exact (nI_leI (by omega) (by omega)).mp h
      refine tp_i (y := nI i) (ei) ?_
      refine pv (va_runV (As := [.int (nI i)]) (rest := [.int (nI 0)]) ⟨hx, hb, hml, hown, hts⟩ (cM_in l (dmP hP) hi) (cwV 1 hts gL_42 rfl rfl rfl (by decide +kernel) (rmF hR (by decide) (by decide))) (kP_V C (va_recv C.2.2.2.2.1 (dmP hP) (ci := ciM) (q0 := 0) rfl rfl)) rfl rfl hl.1 rfl (lv_room (Nat.le_of_ble_eq_true rfl)) dL_law_328 ⟨by show _ ≤ 600000; omega, by show _ ≤ 7302249; omega⟩) ?_
      refine lv_icmp_eq (tgt := 430) hx hb dL_law_331 (by decide) (fun c9 => ?_) (fun c9 => ?_)
      · exact kk (Lh) hP hD hS (lv_sub hl [0, 1, 2, 3] rfl) (by omega) (by omega)
      · exact absurd (b0 (Lh.2.2.2.2.2 i hni).2.1) c9
  · refine lv_aload_n hx hb dL_law_313 rfl (lv_at hl 1 rfl) ?_
    refine lv_aload_n hx hb dL_law_314 rfl (lv_at hl 0 rfl) ?_
    refine lv_iload_n hx hb dL_law_315 rfl (lv_at hl 3 rfl) ?_
    refine lv_iconst (v := nI 1) hx hb dL_law_316 (by decide) ?_
    refine lv_iadd hx hb dL_law_317 ?_
    refine tp_i (y := nI ((6 * t) + 1)) (nI_add (6 * t) 1) ?_
    refine ldx hx hb hX hbl hS (by omega) hL3 dL_law_318 ?_
    refine tp_i (y := nI i) (ei) ?_
    refine pv (va_runV (As := [.int (nI i)]) (rest := []) ⟨hx, hb, hml, hown, hts⟩ (cD_in l hP hn200 hi) (cwV 1 hts gL_39 rfl rfl rfl (by decide +kernel) (rmF hR (by decide) (by decide))) (kP_V C (va_recv C.2.2.2.2.1 hP (ci := ciD) (q0 := 0) rfl rfl)) rfl rfl hl.1 rfl (lv_room (Nat.le_of_ble_eq_true rfl)) dL_law_319 ⟨by show _ ≤ 600000; omega, by show _ ≤ 7302249; omega⟩) ?_
    refine lv_aload_n hx hb dL_law_322 rfl (lv_at hl 2 rfl) ?_
    refine lv_aload_n hx hb dL_law_323 rfl (lv_at hl 0 rfl) ?_
    refine lv_iload_n hx hb dL_law_324 rfl (lv_at hl 3 rfl) ?_
    refine lv_iconst (v := nI 1) hx hb dL_law_325 (by decide) ?_
    refine lv_iadd hx hb dL_law_326 ?_
    refine tp_i (y := nI ((6 * t) + 1)) (nI_add (6 * t) 1) ?_
    refine ldx hx hb hX hbl hS (by omega) hL3 dL_law_327 ?_
    refine tp_i (y := nI i) (ei) ?_
    refine pv (va_runV (As := [.int (nI i)]) (rest := [.int (bI (S i))]) ⟨hx, hb, hml, hown, hts⟩ (cM_in l (dmP hP) (show i < 200 by omega)) (cwV 1 hts gL_42 rfl rfl rfl (by decide +kernel) (rmF hR (by decide) (by decide))) (kP_V C (va_recv C.2.2.2.2.1 (dmP hP) (ci := ciM) (q0 := 0) rfl rfl)) rfl rfl hl.1 rfl (lv_room (Nat.le_of_ble_eq_true rfl)) dL_law_328 ⟨by show _ ≤ 600000; omega, by show _ ≤ 7302249; omega⟩) ?_
    refine lv_icmp_eq (tgt := 430) hx hb dL_law_331 (by decide) (fun c9 => ?_) (fun c9 => ?_)
    · exact kk (Lh) hP hD hS (lv_sub hl [0, 1, 2, 3] rfl) (by omega) (by omega)
    · exact absurd (congrArg bI (Lh.2.2.2.2.1 i hi).2.1) c9
set_option maxHeartbeats 1000000 in
set_option maxRecDepth 100000 in
theorem law_go (G : lC D K p s m c b L xs) (ht : 6 * t + 6 ≤ L) (Lh : LI va fl n tc sc T S us ps am va' fl' th ch mn po an) (hP : va_P D vwCl (dW (mW [] o' K va' fl' n th ch mn po an) o K ad va fl af bl n tc sc T S us ps am) H) (hD : va_D (fun q => s.heap.size ≤ q) (dW (mW [] o' K va' fl' n th ch mn po an) o K ad va fl af bl n tc sc T S us ps am)) (hS : va_S (fun q => s.heap.size ≤ q) s.heap H locs) (hl : lv_has ls 4 [(0, .ref b), (1, .ref (o 0)), (2, .ref (o' 0)), (3, .int (nI (6 * t)))]) (hc : cells ≤ 20 + 3 * t) (hs : slots ≤ 20000 + 37 * t) (kk : LK p l e s m below meth c b t Q D K o o' 430 3 37) : W p l e room_1 s m #[Value.ref b] below meth c H locs cells slots Q (F0 m 277 ls []) := by
  obtain ⟨C, hml, hX, hbl, hL3⟩ := G
  have hx := C.1
  have hb := C.2.1
  have hown := C.2.2.1
  have hts := C.2.2.2.1
  have hR : rmOk room_1 8 0 0 := ⟨by decide, by decide, Nat.zero_le _, Nat.zero_le _⟩
  have hn200 : n ≤ 200 := Lh.1.1
  have hTt : ∀ i, i < n → T i = th i := fun i hi => (Lh.2.2.2.2.1 i hi).1
  rcases nT_or n T hn200 (xs (6 * t + 1)) with h | ⟨i, hi, ei, hT⟩
  · refine lv_aload_n hx hb dL_law_277 rfl (lv_at hl 1 rfl) ?_
    refine lv_aload_n hx hb dL_law_278 rfl (lv_at hl 0 rfl) ?_
    refine lv_iload_n hx hb dL_law_279 rfl (lv_at hl 3 rfl) ?_
    refine lv_iconst (v := nI 1) hx hb dL_law_280 (by decide) ?_
    refine lv_iadd hx hb dL_law_281 ?_
    refine tp_i (y := nI ((6 * t) + 1)) (nI_add (6 * t) 1) ?_
    refine ldx hx hb hX hbl hS (by omega) hL3 dL_law_282 ?_
    refine pv (va_runV (As := [.int (xs ((6 * t) + 1))]) (rest := []) ⟨hx, hb, hml, hown, hts⟩ (cD_go_no l hP hn200 (xs (6 * t + 1)) h) (cwV 1 hts gL_30 rfl rfl rfl (by decide +kernel) (rmF hR (by decide) (by decide))) (kP_V C (va_recv C.2.2.2.2.1 hP (ci := ciD) (q0 := 0) rfl rfl)) rfl rfl hl.1 rfl (lv_room (Nat.le_of_ble_eq_true rfl)) dL_law_283 ⟨by show _ ≤ 600000; omega, by show _ ≤ 7302249; omega⟩) ?_
    refine lv_aload_n hx hb dL_law_286 rfl (lv_at hl 2 rfl) ?_
    refine lv_aload_n hx hb dL_law_287 rfl (lv_at hl 0 rfl) ?_
    refine lv_iload_n hx hb dL_law_288 rfl (lv_at hl 3 rfl) ?_
    refine lv_iconst (v := nI 1) hx hb dL_law_289 (by decide) ?_
    refine lv_iadd hx hb dL_law_290 ?_
    refine tp_i (y := nI ((6 * t) + 1)) (nI_add (6 * t) 1) ?_
    refine ldx hx hb hX hbl hS (by omega) hL3 dL_law_291 ?_
    refine pv (va_runV (As := [.int (xs ((6 * t) + 1))]) (rest := [.int (nI 0)]) ⟨hx, hb, hml, hown, hts⟩ (cM_go_no l (dmP hP) hn200 (xs (6 * t + 1)) (nT_congr hTt h)) (cwV 1 hts gL_34 rfl rfl rfl (by decide +kernel) (rmF hR (by decide) (by decide))) (kP_V C (va_recv C.2.2.2.2.1 (dmP hP) (ci := ciM) (q0 := 0) rfl rfl)) rfl rfl hl.1 rfl (lv_room (Nat.le_of_ble_eq_true rfl)) dL_law_292 ⟨by show _ ≤ 600000; omega, by show _ ≤ 7302249; omega⟩) ?_
    refine lv_icmp_eq (tgt := 430) hx hb dL_law_295 (by decide) (fun c9 => ?_) (fun c9 => ?_)
    · exact kk (Lh) hP hD hS (lv_sub hl [0, 1, 2, 3] rfl) (by omega) (by omega)
    · exact absurd (rfl) c9
  · have htc : 0 < tc := by
      rw [Lh.2.1]
      exact cn_pos hi hT
    refine lv_aload_n hx hb dL_law_277 rfl (lv_at hl 1 rfl) ?_
    refine lv_aload_n hx hb dL_law_278 rfl (lv_at hl 0 rfl) ?_
    refine lv_iload_n hx hb dL_law_279 rfl (lv_at hl 3 rfl) ?_
    refine lv_iconst (v := nI 1) hx hb dL_law_280 (by decide) ?_
    refine lv_iadd hx hb dL_law_281 ?_
    refine tp_i (y := nI ((6 * t) + 1)) (nI_add (6 * t) 1) ?_
    refine ldx hx hb hX hbl hS (by omega) hL3 dL_law_282 ?_
    refine tp_i (y := nI i) (ei) ?_
    refine wi (va_runV (As := [.int (nI i)]) (rest := []) ⟨hx, hb, hml, hown, hts⟩ (cD_go l hP hD hn200 hi hT htc) (cwV 1 hts gL_30 rfl rfl rfl (by decide +kernel) (rmF hR (by decide) (by decide))) (kP_V C (va_recv C.2.2.2.2.1 hP (ci := ciD) (q0 := 0) rfl rfl)) rfl rfl hl.1 rfl (lv_room (Nat.le_of_ble_eq_true rfl)) dL_law_283 ⟨by show _ ≤ 600000; omega, by show _ ≤ 7302249; omega⟩) hS (fun r _ H locs hq hP hD hS => ?_)
    subst hq
    refine lv_aload_n hx hb dL_law_286 rfl (lv_at hl 2 rfl) ?_
    refine lv_aload_n hx hb dL_law_287 rfl (lv_at hl 0 rfl) ?_
    refine lv_iload_n hx hb dL_law_288 rfl (lv_at hl 3 rfl) ?_
    refine lv_iconst (v := nI 1) hx hb dL_law_289 (by decide) ?_
    refine lv_iadd hx hb dL_law_290 ?_
    refine tp_i (y := nI ((6 * t) + 1)) (nI_add (6 * t) 1) ?_
    refine ldx hx hb hX hbl hS (by omega) hL3 dL_law_291 ?_
    refine tp_i (y := nI i) (ei) ?_
    refine wi (va_runV (As := [.int (nI i)]) (rest := [.int (nI 1)]) ⟨hx, hb, hml, hown, hts⟩ (cM_go l (dmP hP) (dmD hD) hn200 hi (by rw [← hTt i hi]; exact hT)) (cwV 1 hts gL_34 rfl rfl rfl (by decide +kernel) (rmF hR (by decide) (by decide))) (kP_V C (va_recv C.2.2.2.2.1 (dmP hP) (ci := ciM) (q0 := 0) rfl rfl)) rfl rfl hl.1 rfl (lv_room (Nat.le_of_ble_eq_true rfl)) dL_law_292 ⟨by show _ ≤ 600000; omega, by show _ ≤ 7302249; omega⟩) hS (fun r _ H locs hq hP hD hS => ?_)
    subst hq
    have hP := mdP hP
    have hD := mdD hD
    refine lv_icmp_eq (tgt := 430) hx hb dL_law_295 (by decide) (fun c9 => ?_) (fun c9 => ?_)
    · exact kk (LI_go Lh hi hT) hP hD hS (lv_sub hl [0, 1, 2, 3] rfl) (by omega) (by omega)
    · exact absurd (rfl) c9
set_option maxHeartbeats 1000000 in
set_option maxRecDepth 100000 in
theorem law_item (G : lC D K p s m c b L xs) (ht : 6 * t + 6 ≤ L) (Lh : LI va fl n tc sc T S us ps am va' fl' th ch mn po an) (hP : va_P D vwCl (dW (mW [] o' K va' fl' n th ch mn po an) o K ad va fl af bl n tc sc T S us ps am) H) (hD : va_D (fun q => s.heap.size ≤ q) (dW (mW [] o' K va' fl' n th ch mn po an) o K ad va fl af bl n tc sc T S us ps am)) (hS : va_S (fun q => s.heap.size ≤ q) s.heap H locs) (hl : lv_has ls 4 [(0, .ref b), (1, .ref (o 0)), (2, .ref (o' 0)), (3, .int (nI (6 * t)))]) (hc : cells ≤ 20 + 3 * t) (hs : slots ≤ 20000 + 37 * t) (kk : LK p l e s m below meth c b t Q D K o o' 430 3 37) : W p l e room_1 s m #[Value.ref b] below meth c H locs cells slots Q (F0 m 191 ls []) := by
  obtain ⟨C, hml, hX, hbl, hL3⟩ := G
  have hx := C.1
  have hb := C.2.1
  have hown := C.2.2.1
  have hts := C.2.2.2.1
  have hR : rmOk room_1 8 0 0 := ⟨by decide, by decide, Nat.zero_le _, Nat.zero_le _⟩
  have hn200 : n ≤ 200 := Lh.1.1
  have hTt : ∀ i, i < n → T i = th i := fun i hi => (Lh.2.2.2.2.1 i hi).1
  by_cases hn : n < 200
  · refine lv_aload_n hx hb dL_law_191 rfl (lv_at hl 1 rfl) ?_
    refine wi (va_runV (As := []) (rest := []) ⟨hx, hb, hml, hown, hts⟩ (cD_item l hP hD (fun q h9 => Nat.le_trans hS.1 h9) hn) (cwV 0 hts gL_20 rfl rfl rfl (by decide +kernel) (rmF hR (by decide) (by decide))) (kP_V C (va_recv C.2.2.2.2.1 hP (ci := ciD) (q0 := 0) rfl rfl)) rfl rfl hl.1 rfl (lv_room (Nat.le_of_ble_eq_true rfl)) dL_law_192 ⟨by show _ ≤ 600000; omega, by show _ ≤ 7302249; omega⟩) hS (fun r u H locs hq hP hD hS => ?_)
    subst hq
    refine lv_aload_n hx hb dL_law_195 rfl (lv_at hl 2 rfl) ?_
    refine wi (va_runV (As := []) (rest := [.int (nI n)]) ⟨hx, hb, hml, hown, hts⟩ (cM_item l (dmP hP) (dmD hD) hn) (cwV 0 hts gL_24 rfl rfl rfl (by decide +kernel) (rmF hR (by decide) (by decide))) (kP_V C (va_recv C.2.2.2.2.1 (dmP hP) (ci := ciM) (q0 := 0) rfl rfl)) rfl rfl hl.1 rfl (lv_room (Nat.le_of_ble_eq_true rfl)) dL_law_196 ⟨by show _ ≤ 600000; omega, by show _ ≤ 7302249; omega⟩) hS (fun r _ H locs hq hP hD hS => ?_)
    subst hq
    have hP := mdP hP
    have hD := mdD hD
    refine lv_icmp_eq (tgt := 430) hx hb dL_law_199 (by decide) (fun c9 => ?_) (fun c9 => ?_)
    · exact kk (LI_item Lh hn) hP hD hS (lv_sub hl [0, 1, 2, 3] rfl) (by omega) (by omega)
    · exact absurd (rfl) c9
  · refine lv_aload_n hx hb dL_law_191 rfl (lv_at hl 1 rfl) ?_
    refine pv (va_runV (As := []) (rest := []) ⟨hx, hb, hml, hown, hts⟩ (cD_item_no l hP (by omega) hn200) (cwV 0 hts gL_20 rfl rfl rfl (by decide +kernel) (rmF hR (by decide) (by decide))) (kP_V C (va_recv C.2.2.2.2.1 hP (ci := ciD) (q0 := 0) rfl rfl)) rfl rfl hl.1 rfl (lv_room (Nat.le_of_ble_eq_true rfl)) dL_law_192 ⟨by show _ ≤ 600000; omega, by show _ ≤ 7302249; omega⟩) ?_
    refine lv_aload_n hx hb dL_law_195 rfl (lv_at hl 2 rfl) ?_
    refine pv (va_runV (As := []) (rest := [.int (-1)]) ⟨hx, hb, hml, hown, hts⟩ (cM_item_no l (dmP hP) (by omega)) (cwV 0 hts gL_24 rfl rfl rfl (by decide +kernel) (rmF hR (by decide) (by decide))) (kP_V C (va_recv C.2.2.2.2.1 (dmP hP) (ci := ciM) (q0 := 0) rfl rfl)) rfl rfl hl.1 rfl (lv_room (Nat.le_of_ble_eq_true rfl)) dL_law_196 ⟨by show _ ≤ 600000; omega, by show _ ≤ 7302249; omega⟩) ?_
    refine lv_icmp_eq (tgt := 430) hx hb dL_law_199 (by decide) (fun c9 => ?_) (fun c9 => ?_)
    · exact kk (Lh) hP hD hS (lv_sub hl [0, 1, 2, 3] rfl) (by omega) (by omega)
    · exact absurd (rfl) c9
set_option maxHeartbeats 1000000 in
set_option maxRecDepth 100000 in
theorem law_netOf (G : lC D K p s m c b L xs) (ht : 6 * t + 6 ≤ L) (Lh : LI va fl n tc sc T S us ps am va' fl' th ch mn po an) (hP : va_P D vwCl (dW (mW [] o' K va' fl' n th ch mn po an) o K ad va fl af bl n tc sc T S us ps am) H) (hD : va_D (fun q => s.heap.size ≤ q) (dW (mW [] o' K va' fl' n th ch mn po an) o K ad va fl af bl n tc sc T S us ps am)) (hS : va_S (fun q => s.heap.size ≤ q) s.heap H locs) (hl : lv_has ls 4 [(0, .ref b), (1, .ref (o 0)), (2, .ref (o' 0)), (3, .int (nI (6 * t)))]) (hc : cells ≤ 20 + 3 * t) (hs : slots ≤ 20000 + 37 * t) (kk : LK p l e s m below meth c b t Q D K o o' 430 3 37) : W p l e room_1 s m #[Value.ref b] below meth c H locs cells slots Q (F0 m 373 ls []) := by
  obtain ⟨C, hml, hX, hbl, hL3⟩ := G
  have hx := C.1
  have hb := C.2.1
  have hown := C.2.2.1
  have hts := C.2.2.2.1
  have hR : rmOk room_1 8 0 0 := ⟨by decide, by decide, Nat.zero_le _, Nat.zero_le _⟩
  have hn200 : n ≤ 200 := Lh.1.1
  have hTt : ∀ i, i < n → T i = th i := fun i hi => (Lh.2.2.2.2.1 i hi).1
  rcases nT_or n T hn200 (xs (6 * t + 1)) with h | ⟨i, hi, ei, hT⟩
  · refine lv_aload_n hx hb dL_law_373 rfl (lv_at hl 1 rfl) ?_
    refine lv_aload_n hx hb dL_law_374 rfl (lv_at hl 0 rfl) ?_
    refine lv_iload_n hx hb dL_law_375 rfl (lv_at hl 3 rfl) ?_
    refine lv_iconst (v := nI 1) hx hb dL_law_376 (by decide) ?_
    refine lv_iadd hx hb dL_law_377 ?_
    refine tp_i (y := nI ((6 * t) + 1)) (nI_add (6 * t) 1) ?_
    refine ldx hx hb hX hbl hS (by omega) hL3 dL_law_378 ?_
    refine lv_aload_n hx hb dL_law_379 rfl (lv_at hl 0 rfl) ?_
    refine lv_iload_n hx hb dL_law_380 rfl (lv_at hl 3 rfl) ?_
    refine lv_iconst (v := nI 2) hx hb dL_law_381 (by decide) ?_
    refine lv_iadd hx hb dL_law_382 ?_
    refine tp_i (y := nI ((6 * t) + 2)) (nI_add (6 * t) 2) ?_
    refine ldx hx hb hX hbl hS (by omega) hL3 dL_law_383 ?_
    refine pv (va_runV (As := [.int (xs ((6 * t) + 1)), .int (xs ((6 * t) + 2))]) (rest := []) ⟨hx, hb, hml, hown, hts⟩ (cD_netOf_no l hP hn200 (xs (6 * t + 1)) (xs (6 * t + 2)) h) (cwV 2 hts gL_52 rfl rfl rfl (by decide +kernel) (rmF hR (by decide) (by decide))) (kP_V C (va_recv C.2.2.2.2.1 hP (ci := ciD) (q0 := 0) rfl rfl)) rfl rfl hl.1 rfl (lv_room (Nat.le_of_ble_eq_true rfl)) dL_law_384 ⟨by show _ ≤ 600000; omega, by show _ ≤ 7302249; omega⟩) ?_
    refine lv_aload_n hx hb dL_law_387 rfl (lv_at hl 2 rfl) ?_
    refine lv_aload_n hx hb dL_law_388 rfl (lv_at hl 0 rfl) ?_
    refine lv_iload_n hx hb dL_law_389 rfl (lv_at hl 3 rfl) ?_
    refine lv_iconst (v := nI 1) hx hb dL_law_390 (by decide) ?_
    refine lv_iadd hx hb dL_law_391 ?_
    refine tp_i (y := nI ((6 * t) + 1)) (nI_add (6 * t) 1) ?_
    refine ldx hx hb hX hbl hS (by omega) hL3 dL_law_392 ?_
    refine lv_aload_n hx hb dL_law_393 rfl (lv_at hl 0 rfl) ?_
    refine lv_iload_n hx hb dL_law_394 rfl (lv_at hl 3 rfl) ?_
    refine lv_iconst (v := nI 2) hx hb dL_law_395 (by decide) ?_
    refine lv_iadd hx hb dL_law_396 ?_
    refine tp_i (y := nI ((6 * t) + 2)) (nI_add (6 * t) 2) ?_
    refine ldx hx hb hX hbl hS (by omega) hL3 dL_law_397 ?_
    refine pv (va_runV (As := [.int (xs ((6 * t) + 1)), .int (xs ((6 * t) + 2))]) (rest := [.long ((0 : Int64))]) ⟨hx, hb, hml, hown, hts⟩ (cM_netOf_no l (dmP hP) hn200 (xs (6 * t + 1)) (xs (6 * t + 2)) (nT_congr hTt h)) (cwV 2 hts gL_56 rfl rfl rfl (by decide +kernel) (rmF hR (by decide) (by decide))) (kP_V C (va_recv C.2.2.2.2.1 (dmP hP) (ci := ciM) (q0 := 0) rfl rfl)) rfl rfl hl.1 rfl (lv_room (Nat.le_of_ble_eq_true rfl)) dL_law_398 ⟨by show _ ≤ 600000; omega, by show _ ≤ 7302249; omega⟩) ?_
    refine W.lcmp hx hb dL_law_401 ?_
    refine lv_if_eq (tgt := 430) hx hb dL_law_402 (by decide) (fun c9 => ?_) (fun c9 => ?_)
    · have c9 : ((0 : Int64)) = ((0 : Int64)) := (lg_cmp_eq ((0 : Int64)) ((0 : Int64))).mp c9
      exact kk (Lh) hP hD hS (lv_sub hl [0, 1, 2, 3] rfl) (by omega) (by omega)
    · have c9 : ¬ ((0 : Int64)) = ((0 : Int64)) := fun z9 => c9 ((lg_cmp_eq ((0 : Int64)) ((0 : Int64))).mpr z9)
      exact absurd (rfl) c9
  · have hth : th i = true := by
      rw [← hTt i hi]
      exact hT
    have hok := Lh.1.2.1 i hi
    have hag := (Lh.2.2.2.2.1 i hi).2.2
    have hok2 := ag_ok hag hok
    refine lv_aload_n hx hb dL_law_373 rfl (lv_at hl 1 rfl) ?_
    refine lv_aload_n hx hb dL_law_374 rfl (lv_at hl 0 rfl) ?_
    refine lv_iload_n hx hb dL_law_375 rfl (lv_at hl 3 rfl) ?_
    refine lv_iconst (v := nI 1) hx hb dL_law_376 (by decide) ?_
    refine lv_iadd hx hb dL_law_377 ?_
    refine tp_i (y := nI ((6 * t) + 1)) (nI_add (6 * t) 1) ?_
    refine ldx hx hb hX hbl hS (by omega) hL3 dL_law_378 ?_
    refine tp_i (y := nI i) (ei) ?_
    refine lv_aload_n hx hb dL_law_379 rfl (lv_at hl 0 rfl) ?_
    refine lv_iload_n hx hb dL_law_380 rfl (lv_at hl 3 rfl) ?_
    refine lv_iconst (v := nI 2) hx hb dL_law_381 (by decide) ?_
    refine lv_iadd hx hb dL_law_382 ?_
    refine tp_i (y := nI ((6 * t) + 2)) (nI_add (6 * t) 2) ?_
    refine ldx hx hb hX hbl hS (by omega) hL3 dL_law_383 ?_
    cases hp : isP (xs (6 * t + 2)) with
    | false =>
      refine pv (va_runV (As := [.int (nI i), .int (xs ((6 * t) + 2))]) (rest := []) ⟨hx, hb, hml, hown, hts⟩ (cD_netOf l hP hn200 hi hT hok.1 (xs (6 * t + 2))) (cwV 2 hts gL_52 rfl rfl rfl (by decide +kernel) (rmF hR (by decide) (by decide))) (kP_V C (va_recv C.2.2.2.2.1 hP (ci := ciD) (q0 := 0) rfl rfl)) rfl rfl hl.1 rfl (lv_room (Nat.le_of_ble_eq_true rfl)) dL_law_384 ⟨by show _ ≤ 600000; omega, by show _ ≤ 7302249; omega⟩) ?_
      refine lv_aload_n hx hb dL_law_387 rfl (lv_at hl 2 rfl) ?_
      refine lv_aload_n hx hb dL_law_388 rfl (lv_at hl 0 rfl) ?_
      refine lv_iload_n hx hb dL_law_389 rfl (lv_at hl 3 rfl) ?_
      refine lv_iconst (v := nI 1) hx hb dL_law_390 (by decide) ?_
      refine lv_iadd hx hb dL_law_391 ?_
      refine tp_i (y := nI ((6 * t) + 1)) (nI_add (6 * t) 1) ?_
      refine ldx hx hb hX hbl hS (by omega) hL3 dL_law_392 ?_
      refine tp_i (y := nI i) (ei) ?_
      refine lv_aload_n hx hb dL_law_393 rfl (lv_at hl 0 rfl) ?_
      refine lv_iload_n hx hb dL_law_394 rfl (lv_at hl 3 rfl) ?_
      refine lv_iconst (v := nI 2) hx hb dL_law_395 (by decide) ?_
      refine lv_iadd hx hb dL_law_396 ?_
      refine tp_i (y := nI ((6 * t) + 2)) (nI_add (6 * t) 2) ?_
      refine ldx hx hb hX hbl hS (by omega) hL3 dL_law_397 ?_
      refine pv (va_runV (As := [.int (nI i), .int (xs ((6 * t) + 2))]) (rest := [.long (ntq (qx (ps i) (xs (6 * t + 2))) (us i) (am i))]) ⟨hx, hb, hml, hown, hts⟩ (cM_netOf_no2 l (dmP hP) hn200 hi hth (xs (6 * t + 2)) hp) (cwV 2 hts gL_56 rfl rfl rfl (by decide +kernel) (rmF hR (by decide) (by decide))) (kP_V C (va_recv C.2.2.2.2.1 (dmP hP) (ci := ciM) (q0 := 0) rfl rfl)) rfl rfl hl.1 rfl (lv_room (Nat.le_of_ble_eq_true rfl)) dL_law_398 ⟨by show _ ≤ 600000; omega, by show _ ≤ 7302249; omega⟩) ?_
      refine W.lcmp hx hb dL_law_401 ?_
      refine lv_if_eq (tgt := 430) hx hb dL_law_402 (by decide) (fun c9 => ?_) (fun c9 => ?_)
      · have c9 : (ntq (qx (ps i) (xs (6 * t + 2))) (us i) (am i)) = ((0 : Int64)) := (lg_cmp_eq (ntq (qx (ps i) (xs (6 * t + 2))) (us i) (am i)) ((0 : Int64))).mp c9
        exact kk (Lh) hP hD hS (lv_sub hl [0, 1, 2, 3] rfl) (by omega) (by omega)
      · have c9 : ¬ (ntq (qx (ps i) (xs (6 * t + 2))) (us i) (am i)) = ((0 : Int64)) := fun z9 => c9 ((lg_cmp_eq (ntq (qx (ps i) (xs (6 * t + 2))) (us i) (am i)) ((0 : Int64))).mpr z9)
        exact absurd (ntq_out hok.2.1 hp) c9
    | true =>
      obtain ⟨g, hg, eg⟩ := isP_of hp
      refine tp_i (y := nI g) (eg) ?_
      refine pv (va_runV (As := [.int (nI i), .int (nI g)]) (rest := []) ⟨hx, hb, hml, hown, hts⟩ (cD_netOf l hP hn200 hi hT hok.1 (nI g)) (cwV 2 hts gL_52 rfl rfl rfl (by decide +kernel) (rmF hR (by decide) (by decide))) (kP_V C (va_recv C.2.2.2.2.1 hP (ci := ciD) (q0 := 0) rfl rfl)) rfl rfl hl.1 rfl (lv_room (Nat.le_of_ble_eq_true rfl)) dL_law_384 ⟨by show _ ≤ 600000; omega, by show _ ≤ 7302249; omega⟩) ?_
      refine lv_aload_n hx hb dL_law_387 rfl (lv_at hl 2 rfl) ?_
      refine lv_aload_n hx hb dL_law_388 rfl (lv_at hl 0 rfl) ?_
      refine lv_iload_n hx hb dL_law_389 rfl (lv_at hl 3 rfl) ?_
      refine lv_iconst (v := nI 1) hx hb dL_law_390 (by decide) ?_
      refine lv_iadd hx hb dL_law_391 ?_
      refine tp_i (y := nI ((6 * t) + 1)) (nI_add (6 * t) 1) ?_
      refine ldx hx hb hX hbl hS (by omega) hL3 dL_law_392 ?_
      refine tp_i (y := nI i) (ei) ?_
      refine lv_aload_n hx hb dL_law_393 rfl (lv_at hl 0 rfl) ?_
      refine lv_iload_n hx hb dL_law_394 rfl (lv_at hl 3 rfl) ?_
      refine lv_iconst (v := nI 2) hx hb dL_law_395 (by decide) ?_
      refine lv_iadd hx hb dL_law_396 ?_
      refine tp_i (y := nI ((6 * t) + 2)) (nI_add (6 * t) 2) ?_
      refine ldx hx hb hX hbl hS (by omega) hL3 dL_law_397 ?_
      refine tp_i (y := nI g) (eg) ?_
      refine pv (va_runV (As := [.int (nI i), .int (nI g)]) (rest := [.long (ntq (qx (ps i) (nI g)) (us i) (am i))]) ⟨hx, hb, hml, hown, hts⟩ (cM_netOf l (dmP hP) hn200 hi hth hok2.1 hok2.2.1 hg) (cwV 2 hts gL_56 rfl rfl rfl (by decide +kernel) (rmF hR (by decide) (by decide))) (kP_V C (va_recv C.2.2.2.2.1 (dmP hP) (ci := ciM) (q0 := 0) rfl rfl)) rfl rfl hl.1 rfl (lv_room (Nat.le_of_ble_eq_true rfl)) dL_law_398 ⟨by show _ ≤ 600000; omega, by show _ ≤ 7302249; omega⟩) ?_
      refine W.lcmp hx hb dL_law_401 ?_
      refine lv_if_eq (tgt := 430) hx hb dL_law_402 (by decide) (fun c9 => ?_) (fun c9 => ?_)
      · have c9 : (ntq (qx (ps i) (nI g)) (us i) (am i)) = (netA mn po an i g) := (lg_cmp_eq (ntq (qx (ps i) (nI g)) (us i) (am i)) (netA mn po an i g)).mp c9
        exact kk (Lh) hP hD hS (lv_sub hl [0, 1, 2, 3] rfl) (by omega) (by omega)
      · have c9 : ¬ (ntq (qx (ps i) (nI g)) (us i) (am i)) = (netA mn po an i g) := fun z9 => c9 ((lg_cmp_eq (ntq (qx (ps i) (nI g)) (us i) (am i)) (netA mn po an i g)).mpr z9)
        exact absurd ((net_nt hag hok.2.1 hg).symm) c9
set_option maxHeartbeats 1000000 in
set_option maxRecDepth 100000 in
theorem law_net (G : lC D K p s m c b L xs) (ht : 6 * t + 6 ≤ L) (Lh : LI va fl n tc sc T S us ps am va' fl' th ch mn po an) (hP : va_P D vwCl (dW (mW [] o' K va' fl' n th ch mn po an) o K ad va fl af bl n tc sc T S us ps am) H) (hD : va_D (fun q => s.heap.size ≤ q) (dW (mW [] o' K va' fl' n th ch mn po an) o K ad va fl af bl n tc sc T S us ps am)) (hS : va_S (fun q => s.heap.size ≤ q) s.heap H locs) (hl : lv_has ls 4 [(0, .ref b), (1, .ref (o 0)), (2, .ref (o' 0)), (3, .int (nI (6 * t)))]) (hc : cells ≤ 20 + 3 * t) (hs : slots ≤ 20000 + 37 * t) (kk : LK p l e s m below meth c b t Q D K o o' 430 3 37) : W p l e room_1 s m #[Value.ref b] below meth c H locs cells slots Q (F0 m 204 ls []) := by
  obtain ⟨C, hml, hX, hbl, hL3⟩ := G
  have hx := C.1
  have hb := C.2.1
  have hown := C.2.2.1
  have hts := C.2.2.2.1
  have hR : rmOk room_1 8 0 0 := ⟨by decide, by decide, Nat.zero_le _, Nat.zero_le _⟩
  have hn200 : n ≤ 200 := Lh.1.1
  have hTt : ∀ i, i < n → T i = th i := fun i hi => (Lh.2.2.2.2.1 i hi).1
  rcases nT_or n T hn200 (xs (6 * t + 1)) with h | ⟨i, hi, ei, hT⟩
  · refine lv_aload_n hx hb dL_law_204 rfl (lv_at hl 1 rfl) ?_
    refine lv_aload_n hx hb dL_law_205 rfl (lv_at hl 0 rfl) ?_
    refine lv_iload_n hx hb dL_law_206 rfl (lv_at hl 3 rfl) ?_
    refine lv_iconst (v := nI 1) hx hb dL_law_207 (by decide) ?_
    refine lv_iadd hx hb dL_law_208 ?_
    refine tp_i (y := nI ((6 * t) + 1)) (nI_add (6 * t) 1) ?_
    refine ldx hx hb hX hbl hS (by omega) hL3 dL_law_209 ?_
    refine lv_aload_n hx hb dL_law_210 rfl (lv_at hl 0 rfl) ?_
    refine lv_iload_n hx hb dL_law_211 rfl (lv_at hl 3 rfl) ?_
    refine lv_iconst (v := nI 2) hx hb dL_law_212 (by decide) ?_
    refine lv_iadd hx hb dL_law_213 ?_
    refine tp_i (y := nI ((6 * t) + 2)) (nI_add (6 * t) 2) ?_
    refine ldx hx hb hX hbl hS (by omega) hL3 dL_law_214 ?_
    refine lv_aload_n hx hb dL_law_215 rfl (lv_at hl 0 rfl) ?_
    refine lv_iload_n hx hb dL_law_216 rfl (lv_at hl 3 rfl) ?_
    refine lv_iconst (v := nI 3) hx hb dL_law_217 (by decide) ?_
    refine lv_iadd hx hb dL_law_218 ?_
    refine tp_i (y := nI ((6 * t) + 3)) (nI_add (6 * t) 3) ?_
    refine ldx hx hb hX hbl hS (by omega) hL3 dL_law_219 ?_
    refine lv_i2l hx hb dL_law_220 rfl ?_
    refine lv_bipush (v := nI 32) hx hb dL_law_221 (by decide) ?_
    refine lv_lshl hx hb dL_law_223 rfl ?_
    refine lv_aload_n hx hb dL_law_224 rfl (lv_at hl 0 rfl) ?_
    refine lv_iload_n hx hb dL_law_225 rfl (lv_at hl 3 rfl) ?_
    refine lv_iconst (v := nI 4) hx hb dL_law_226 (by decide) ?_
    refine lv_iadd hx hb dL_law_227 ?_
    refine tp_i (y := nI ((6 * t) + 4)) (nI_add (6 * t) 4) ?_
    refine ldx hx hb hX hbl hS (by omega) hL3 dL_law_228 ?_
    refine lv_i2l hx hb dL_law_229 rfl ?_
    refine lv_ldc2 (v := 4294967295) hx hb hown (hts _ (by decide +kernel : Cond.constantLong RL 13 4294967295 ∈ tT)) dL_law_230 ?_
    refine lv_land hx hb dL_law_233 ?_
    refine lv_lor hx hb dL_law_234 ?_
    refine tp_l (y := lw2 (xs (6 * t + 3)) (xs (6 * t + 4))) (rfl) ?_
    refine pv (va_runV (As := [.int (xs ((6 * t) + 1)), .int (xs ((6 * t) + 2)), .long (lw2 (xs (6 * t + 3)) (xs (6 * t + 4)))]) (rest := []) ⟨hx, hb, hml, hown, hts⟩ (cD_net_no l hP hn200 (xs (6 * t + 1)) (xs (6 * t + 2)) (lw2 (xs (6 * t + 3)) (xs (6 * t + 4))) h) (cwV 3 hts gL_25 rfl rfl rfl (by decide +kernel) (rmF hR (by decide) (by decide))) (kP_V C (va_recv C.2.2.2.2.1 hP (ci := ciD) (q0 := 0) rfl rfl)) rfl rfl hl.1 rfl (lv_room (Nat.le_of_ble_eq_true rfl)) dL_law_235 ⟨by show _ ≤ 600000; omega, by show _ ≤ 7302249; omega⟩) ?_
    refine lv_aload_n hx hb dL_law_238 rfl (lv_at hl 2 rfl) ?_
    refine lv_aload_n hx hb dL_law_239 rfl (lv_at hl 0 rfl) ?_
    refine lv_iload_n hx hb dL_law_240 rfl (lv_at hl 3 rfl) ?_
    refine lv_iconst (v := nI 1) hx hb dL_law_241 (by decide) ?_
    refine lv_iadd hx hb dL_law_242 ?_
    refine tp_i (y := nI ((6 * t) + 1)) (nI_add (6 * t) 1) ?_
    refine ldx hx hb hX hbl hS (by omega) hL3 dL_law_243 ?_
    refine lv_aload_n hx hb dL_law_244 rfl (lv_at hl 0 rfl) ?_
    refine lv_iload_n hx hb dL_law_245 rfl (lv_at hl 3 rfl) ?_
    refine lv_iconst (v := nI 2) hx hb dL_law_246 (by decide) ?_
    refine lv_iadd hx hb dL_law_247 ?_
    refine tp_i (y := nI ((6 * t) + 2)) (nI_add (6 * t) 2) ?_
    refine ldx hx hb hX hbl hS (by omega) hL3 dL_law_248 ?_
    refine lv_aload_n hx hb dL_law_249 rfl (lv_at hl 0 rfl) ?_
    refine lv_iload_n hx hb dL_law_250 rfl (lv_at hl 3 rfl) ?_
    refine lv_iconst (v := nI 3) hx hb dL_law_251 (by decide) ?_
    refine lv_iadd hx hb dL_law_252 ?_
    refine tp_i (y := nI ((6 * t) + 3)) (nI_add (6 * t) 3) ?_
    refine ldx hx hb hX hbl hS (by omega) hL3 dL_law_253 ?_
    refine lv_i2l hx hb dL_law_254 rfl ?_
    refine lv_bipush (v := nI 32) hx hb dL_law_255 (by decide) ?_
    refine lv_lshl hx hb dL_law_257 rfl ?_
    refine lv_aload_n hx hb dL_law_258 rfl (lv_at hl 0 rfl) ?_
    refine lv_iload_n hx hb dL_law_259 rfl (lv_at hl 3 rfl) ?_
    refine lv_iconst (v := nI 4) hx hb dL_law_260 (by decide) ?_
    refine lv_iadd hx hb dL_law_261 ?_
    refine tp_i (y := nI ((6 * t) + 4)) (nI_add (6 * t) 4) ?_
    refine ldx hx hb hX hbl hS (by omega) hL3 dL_law_262 ?_
    refine lv_i2l hx hb dL_law_263 rfl ?_
    refine lv_ldc2 (v := 4294967295) hx hb hown (hts _ (by decide +kernel : Cond.constantLong RL 13 4294967295 ∈ tT)) dL_law_264 ?_
    refine lv_land hx hb dL_law_267 ?_
    refine lv_lor hx hb dL_law_268 ?_
    refine tp_l (y := lw2 (xs (6 * t + 3)) (xs (6 * t + 4))) (rfl) ?_
    refine pv (va_runV (As := [.int (xs ((6 * t) + 1)), .int (xs ((6 * t) + 2)), .long (lw2 (xs (6 * t + 3)) (xs (6 * t + 4)))]) (rest := [.int (nI 0)]) ⟨hx, hb, hml, hown, hts⟩ (cM_net_no l (dmP hP) hn200 (xs (6 * t + 1)) (xs (6 * t + 2)) (lw2 (xs (6 * t + 3)) (xs (6 * t + 4))) (nT_congr hTt h)) (cwV 3 hts gL_29 rfl rfl rfl (by decide +kernel) (rmF hR (by decide) (by decide))) (kP_V C (va_recv C.2.2.2.2.1 (dmP hP) (ci := ciM) (q0 := 0) rfl rfl)) rfl rfl hl.1 rfl (lv_room (Nat.le_of_ble_eq_true rfl)) dL_law_269 ⟨by show _ ≤ 600000; omega, by show _ ≤ 7302249; omega⟩) ?_
    refine lv_icmp_eq (tgt := 430) hx hb dL_law_272 (by decide) (fun c9 => ?_) (fun c9 => ?_)
    · exact kk (Lh) hP hD hS (lv_sub hl [0, 1, 2, 3] rfl) (by omega) (by omega)
    · exact absurd (rfl) c9
  · have hth : th i = true := by
      rw [← hTt i hi]
      exact hT
    have hok := Lh.1.2.1 i hi
    have hag := (Lh.2.2.2.2.1 i hi).2.2
    have hok2 := ag_ok hag hok
    refine lv_aload_n hx hb dL_law_204 rfl (lv_at hl 1 rfl) ?_
    refine lv_aload_n hx hb dL_law_205 rfl (lv_at hl 0 rfl) ?_
    refine lv_iload_n hx hb dL_law_206 rfl (lv_at hl 3 rfl) ?_
    refine lv_iconst (v := nI 1) hx hb dL_law_207 (by decide) ?_
    refine lv_iadd hx hb dL_law_208 ?_
    refine tp_i (y := nI ((6 * t) + 1)) (nI_add (6 * t) 1) ?_
    refine ldx hx hb hX hbl hS (by omega) hL3 dL_law_209 ?_
    refine tp_i (y := nI i) (ei) ?_
    cases hp : isP (xs (6 * t + 2)) with
    | false =>
      refine lv_aload_n hx hb dL_law_210 rfl (lv_at hl 0 rfl) ?_
      refine lv_iload_n hx hb dL_law_211 rfl (lv_at hl 3 rfl) ?_
      refine lv_iconst (v := nI 2) hx hb dL_law_212 (by decide) ?_
      refine lv_iadd hx hb dL_law_213 ?_
      refine tp_i (y := nI ((6 * t) + 2)) (nI_add (6 * t) 2) ?_
      refine ldx hx hb hX hbl hS (by omega) hL3 dL_law_214 ?_
      refine lv_aload_n hx hb dL_law_215 rfl (lv_at hl 0 rfl) ?_
      refine lv_iload_n hx hb dL_law_216 rfl (lv_at hl 3 rfl) ?_
      refine lv_iconst (v := nI 3) hx hb dL_law_217 (by decide) ?_
      refine lv_iadd hx hb dL_law_218 ?_
      refine tp_i (y := nI ((6 * t) + 3)) (nI_add (6 * t) 3) ?_
      refine ldx hx hb hX hbl hS (by omega) hL3 dL_law_219 ?_
      refine lv_i2l hx hb dL_law_220 rfl ?_
      refine lv_bipush (v := nI 32) hx hb dL_law_221 (by decide) ?_
      refine lv_lshl hx hb dL_law_223 rfl ?_
      refine lv_aload_n hx hb dL_law_224 rfl (lv_at hl 0 rfl) ?_
      refine lv_iload_n hx hb dL_law_225 rfl (lv_at hl 3 rfl) ?_
      refine lv_iconst (v := nI 4) hx hb dL_law_226 (by decide) ?_
      refine lv_iadd hx hb dL_law_227 ?_
      refine tp_i (y := nI ((6 * t) + 4)) (nI_add (6 * t) 4) ?_
      refine ldx hx hb hX hbl hS (by omega) hL3 dL_law_228 ?_
      refine lv_i2l hx hb dL_law_229 rfl ?_
      refine lv_ldc2 (v := 4294967295) hx hb hown (hts _ (by decide +kernel : Cond.constantLong RL 13 4294967295 ∈ tT)) dL_law_230 ?_
      refine lv_land hx hb dL_law_233 ?_
      refine lv_lor hx hb dL_law_234 ?_
      refine tp_l (y := lw2 (xs (6 * t + 3)) (xs (6 * t + 4))) (rfl) ?_
      refine pv (va_runV (As := [.int (nI i), .int (xs ((6 * t) + 2)), .long (lw2 (xs (6 * t + 3)) (xs (6 * t + 4)))]) (rest := []) ⟨hx, hb, hml, hown, hts⟩ (cD_net_no2 l hP hn200 hi hT (xs (6 * t + 2)) (lw2 (xs (6 * t + 3)) (xs (6 * t + 4))) hp) (cwV 3 hts gL_25 rfl rfl rfl (by decide +kernel) (rmF hR (by decide) (by decide))) (kP_V C (va_recv C.2.2.2.2.1 hP (ci := ciD) (q0 := 0) rfl rfl)) rfl rfl hl.1 rfl (lv_room (Nat.le_of_ble_eq_true rfl)) dL_law_235 ⟨by show _ ≤ 600000; omega, by show _ ≤ 7302249; omega⟩) ?_
      refine lv_aload_n hx hb dL_law_238 rfl (lv_at hl 2 rfl) ?_
      refine lv_aload_n hx hb dL_law_239 rfl (lv_at hl 0 rfl) ?_
      refine lv_iload_n hx hb dL_law_240 rfl (lv_at hl 3 rfl) ?_
      refine lv_iconst (v := nI 1) hx hb dL_law_241 (by decide) ?_
      refine lv_iadd hx hb dL_law_242 ?_
      refine tp_i (y := nI ((6 * t) + 1)) (nI_add (6 * t) 1) ?_
      refine ldx hx hb hX hbl hS (by omega) hL3 dL_law_243 ?_
      refine tp_i (y := nI i) (ei) ?_
      refine lv_aload_n hx hb dL_law_244 rfl (lv_at hl 0 rfl) ?_
      refine lv_iload_n hx hb dL_law_245 rfl (lv_at hl 3 rfl) ?_
      refine lv_iconst (v := nI 2) hx hb dL_law_246 (by decide) ?_
      refine lv_iadd hx hb dL_law_247 ?_
      refine tp_i (y := nI ((6 * t) + 2)) (nI_add (6 * t) 2) ?_
      refine ldx hx hb hX hbl hS (by omega) hL3 dL_law_248 ?_
      refine lv_aload_n hx hb dL_law_249 rfl (lv_at hl 0 rfl) ?_
      refine lv_iload_n hx hb dL_law_250 rfl (lv_at hl 3 rfl) ?_
      refine lv_iconst (v := nI 3) hx hb dL_law_251 (by decide) ?_
      refine lv_iadd hx hb dL_law_252 ?_
      refine tp_i (y := nI ((6 * t) + 3)) (nI_add (6 * t) 3) ?_
      refine ldx hx hb hX hbl hS (by omega) hL3 dL_law_253 ?_
      refine lv_i2l hx hb dL_law_254 rfl ?_
      refine lv_bipush (v := nI 32) hx hb dL_law_255 (by decide) ?_
      refine lv_lshl hx hb dL_law_257 rfl ?_
      refine lv_aload_n hx hb dL_law_258 rfl (lv_at hl 0 rfl) ?_
      refine lv_iload_n hx hb dL_law_259 rfl (lv_at hl 3 rfl) ?_
      refine lv_iconst (v := nI 4) hx hb dL_law_260 (by decide) ?_
      refine lv_iadd hx hb dL_law_261 ?_
      refine tp_i (y := nI ((6 * t) + 4)) (nI_add (6 * t) 4) ?_
      refine ldx hx hb hX hbl hS (by omega) hL3 dL_law_262 ?_
      refine lv_i2l hx hb dL_law_263 rfl ?_
      refine lv_ldc2 (v := 4294967295) hx hb hown (hts _ (by decide +kernel : Cond.constantLong RL 13 4294967295 ∈ tT)) dL_law_264 ?_
      refine lv_land hx hb dL_law_267 ?_
      refine lv_lor hx hb dL_law_268 ?_
      refine tp_l (y := lw2 (xs (6 * t + 3)) (xs (6 * t + 4))) (rfl) ?_
      refine pv (va_runV (As := [.int (nI i), .int (xs ((6 * t) + 2)), .long (lw2 (xs (6 * t + 3)) (xs (6 * t + 4)))]) (rest := [.int (nI 0)]) ⟨hx, hb, hml, hown, hts⟩ (cM_net_no2 l (dmP hP) hn200 hi hth (xs (6 * t + 2)) (lw2 (xs (6 * t + 3)) (xs (6 * t + 4))) hp) (cwV 3 hts gL_29 rfl rfl rfl (by decide +kernel) (rmF hR (by decide) (by decide))) (kP_V C (va_recv C.2.2.2.2.1 (dmP hP) (ci := ciM) (q0 := 0) rfl rfl)) rfl rfl hl.1 rfl (lv_room (Nat.le_of_ble_eq_true rfl)) dL_law_269 ⟨by show _ ≤ 600000; omega, by show _ ≤ 7302249; omega⟩) ?_
      refine lv_icmp_eq (tgt := 430) hx hb dL_law_272 (by decide) (fun c9 => ?_) (fun c9 => ?_)
      · exact kk (Lh) hP hD hS (lv_sub hl [0, 1, 2, 3] rfl) (by omega) (by omega)
      · exact absurd (rfl) c9
    | true =>
      obtain ⟨g, hg, eg⟩ := isP_of hp
      obtain ⟨h1, h2⟩ := LI_net Lh (a := lw2 (xs (6 * t + 3)) (xs (6 * t + 4))) hi hg
      refine lv_aload_n hx hb dL_law_210 rfl (lv_at hl 0 rfl) ?_
      refine lv_iload_n hx hb dL_law_211 rfl (lv_at hl 3 rfl) ?_
      refine lv_iconst (v := nI 2) hx hb dL_law_212 (by decide) ?_
      refine lv_iadd hx hb dL_law_213 ?_
      refine tp_i (y := nI ((6 * t) + 2)) (nI_add (6 * t) 2) ?_
      refine ldx hx hb hX hbl hS (by omega) hL3 dL_law_214 ?_
      refine tp_i (y := nI g) (eg) ?_
      refine lv_aload_n hx hb dL_law_215 rfl (lv_at hl 0 rfl) ?_
      refine lv_iload_n hx hb dL_law_216 rfl (lv_at hl 3 rfl) ?_
      refine lv_iconst (v := nI 3) hx hb dL_law_217 (by decide) ?_
      refine lv_iadd hx hb dL_law_218 ?_
      refine tp_i (y := nI ((6 * t) + 3)) (nI_add (6 * t) 3) ?_
      refine ldx hx hb hX hbl hS (by omega) hL3 dL_law_219 ?_
      refine lv_i2l hx hb dL_law_220 rfl ?_
      refine lv_bipush (v := nI 32) hx hb dL_law_221 (by decide) ?_
      refine lv_lshl hx hb dL_law_223 rfl ?_
      refine lv_aload_n hx hb dL_law_224 rfl (lv_at hl 0 rfl) ?_
      refine lv_iload_n hx hb dL_law_225 rfl (lv_at hl 3 rfl) ?_
      refine lv_iconst (v := nI 4) hx hb dL_law_226 (by decide) ?_
      refine lv_iadd hx hb dL_law_227 ?_
      refine tp_i (y := nI ((6 * t) + 4)) (nI_add (6 * t) 4) ?_
      refine ldx hx hb hX hbl hS (by omega) hL3 dL_law_228 ?_
      refine lv_i2l hx hb dL_law_229 rfl ?_
      refine lv_ldc2 (v := 4294967295) hx hb hown (hts _ (by decide +kernel : Cond.constantLong RL 13 4294967295 ∈ tT)) dL_law_230 ?_
      refine lv_land hx hb dL_law_233 ?_
      refine lv_lor hx hb dL_law_234 ?_
      refine tp_l (y := lw2 (xs (6 * t + 3)) (xs (6 * t + 4))) (rfl) ?_
      refine wi (va_runV (As := [.int (nI i), .int (nI g), .long (lw2 (xs (6 * t + 3)) (xs (6 * t + 4)))]) (rest := []) ⟨hx, hb, hml, hown, hts⟩ (cD_net l hP hD hn200 hi hT hok.1 hg (lw2 (xs (6 * t + 3)) (xs (6 * t + 4)))) (cwV 3 hts gL_25 rfl rfl rfl (by decide +kernel) (rmF hR (by decide) (by decide))) (kP_V C (va_recv C.2.2.2.2.1 hP (ci := ciD) (q0 := 0) rfl rfl)) rfl rfl hl.1 rfl (lv_room (Nat.le_of_ble_eq_true rfl)) dL_law_235 ⟨by show _ ≤ 600000; omega, by show _ ≤ 7302249; omega⟩) hS (fun r _ H locs hq hP hD hS => ?_)
      subst hq
      refine lv_aload_n hx hb dL_law_238 rfl (lv_at hl 2 rfl) ?_
      refine lv_aload_n hx hb dL_law_239 rfl (lv_at hl 0 rfl) ?_
      refine lv_iload_n hx hb dL_law_240 rfl (lv_at hl 3 rfl) ?_
      refine lv_iconst (v := nI 1) hx hb dL_law_241 (by decide) ?_
      refine lv_iadd hx hb dL_law_242 ?_
      refine tp_i (y := nI ((6 * t) + 1)) (nI_add (6 * t) 1) ?_
      refine ldx hx hb hX hbl hS (by omega) hL3 dL_law_243 ?_
      refine tp_i (y := nI i) (ei) ?_
      refine lv_aload_n hx hb dL_law_244 rfl (lv_at hl 0 rfl) ?_
      refine lv_iload_n hx hb dL_law_245 rfl (lv_at hl 3 rfl) ?_
      refine lv_iconst (v := nI 2) hx hb dL_law_246 (by decide) ?_
      refine lv_iadd hx hb dL_law_247 ?_
      refine tp_i (y := nI ((6 * t) + 2)) (nI_add (6 * t) 2) ?_
      refine ldx hx hb hX hbl hS (by omega) hL3 dL_law_248 ?_
      refine tp_i (y := nI g) (eg) ?_
      refine lv_aload_n hx hb dL_law_249 rfl (lv_at hl 0 rfl) ?_
      refine lv_iload_n hx hb dL_law_250 rfl (lv_at hl 3 rfl) ?_
      refine lv_iconst (v := nI 3) hx hb dL_law_251 (by decide) ?_
      refine lv_iadd hx hb dL_law_252 ?_
      refine tp_i (y := nI ((6 * t) + 3)) (nI_add (6 * t) 3) ?_
      refine ldx hx hb hX hbl hS (by omega) hL3 dL_law_253 ?_
      refine lv_i2l hx hb dL_law_254 rfl ?_
      refine lv_bipush (v := nI 32) hx hb dL_law_255 (by decide) ?_
      refine lv_lshl hx hb dL_law_257 rfl ?_
      refine lv_aload_n hx hb dL_law_258 rfl (lv_at hl 0 rfl) ?_
      refine lv_iload_n hx hb dL_law_259 rfl (lv_at hl 3 rfl) ?_
      refine lv_iconst (v := nI 4) hx hb dL_law_260 (by decide) ?_
      refine lv_iadd hx hb dL_law_261 ?_
      refine tp_i (y := nI ((6 * t) + 4)) (nI_add (6 * t) 4) ?_
      refine ldx hx hb hX hbl hS (by omega) hL3 dL_law_262 ?_
      refine lv_i2l hx hb dL_law_263 rfl ?_
      refine lv_ldc2 (v := 4294967295) hx hb hown (hts _ (by decide +kernel : Cond.constantLong RL 13 4294967295 ∈ tT)) dL_law_264 ?_
      refine lv_land hx hb dL_law_267 ?_
      refine lv_lor hx hb dL_law_268 ?_
      refine tp_l (y := lw2 (xs (6 * t + 3)) (xs (6 * t + 4))) (rfl) ?_
      refine wi (va_runV (As := [.int (nI i), .int (nI g), .long (lw2 (xs (6 * t + 3)) (xs (6 * t + 4)))]) (rest := [.int (bI (chC g (lw2 (xs (6 * t + 3)) (xs (6 * t + 4))) (us i) (ps i) (am i)).1)]) ⟨hx, hb, hml, hown, hts⟩ (cM_net l (dmP hP) (dmD hD) hn200 hi hth hok2.1 hok2.2.1 hg (lw2 (xs (6 * t + 3)) (xs (6 * t + 4)))) (cwV 3 hts gL_29 rfl rfl rfl (by decide +kernel) (rmF hR (by decide) (by decide))) (kP_V C (va_recv C.2.2.2.2.1 (dmP hP) (ci := ciM) (q0 := 0) rfl rfl)) rfl rfl hl.1 rfl (lv_room (Nat.le_of_ble_eq_true rfl)) dL_law_269 ⟨by show _ ≤ 600000; omega, by show _ ≤ 7302249; omega⟩) hS (fun r _ H locs hq hP hD hS => ?_)
      subst hq
      have hP := mdP hP
      have hD := mdD hD
      refine lv_icmp_eq (tgt := 430) hx hb dL_law_272 (by decide) (fun c9 => ?_) (fun c9 => ?_)
      · exact kk (h2) hP hD hS (lv_sub hl [0, 1, 2, 3] rfl) (by omega) (by omega)
      · exact absurd (congrArg bI h1) c9
set_option maxHeartbeats 1000000 in
set_option maxRecDepth 100000 in
theorem law_place (G : lC D K p s m c b L xs) (ht : 6 * t + 6 ≤ L) (Lh : LI va fl n tc sc T S us ps am va' fl' th ch mn po an) (hP : va_P D vwCl (dW (mW [] o' K va' fl' n th ch mn po an) o K ad va fl af bl n tc sc T S us ps am) H) (hD : va_D (fun q => s.heap.size ≤ q) (dW (mW [] o' K va' fl' n th ch mn po an) o K ad va fl af bl n tc sc T S us ps am)) (hS : va_S (fun q => s.heap.size ≤ q) s.heap H locs) (hl : lv_has ls 4 [(0, .ref b), (1, .ref (o 0)), (2, .ref (o' 0)), (3, .int (nI (6 * t)))]) (hc : cells ≤ 20 + 3 * t) (hs : slots ≤ 20000 + 37 * t) (kk : LK p l e s m below meth c b t Q D K o o' 430 3 37) : W p l e room_1 s m #[Value.ref b] below meth c H locs cells slots Q (F0 m 88 ls []) := by
  obtain ⟨C, hml, hX, hbl, hL3⟩ := G
  have hx := C.1
  have hb := C.2.1
  have hown := C.2.2.1
  have hts := C.2.2.2.1
  have hR : rmOk room_1 8 0 0 := ⟨by decide, by decide, Nat.zero_le _, Nat.zero_le _⟩
  have hn200 : n ≤ 200 := Lh.1.1
  have hTt : ∀ i, i < n → T i = th i := fun i hi => (Lh.2.2.2.2.1 i hi).1
  by_cases h : isP (xs (6 * t + 1)) = true ∧ isV (lw2 (xs (6 * t + 2)) (xs (6 * t + 3))) = true ∧ isV (lw2 (xs (6 * t + 4)) (xs (6 * t + 5))) = true ∧ lw2 (xs (6 * t + 4)) (xs (6 * t + 5)) ≤ lw2 (xs (6 * t + 2)) (xs (6 * t + 3))
  · obtain ⟨hp, h2, h3, h4⟩ := h
    obtain ⟨g, hg, eg⟩ := isP_of hp
    refine lv_aload_n hx hb dL_law_88 rfl (lv_at hl 1 rfl) ?_
    refine lv_aload_n hx hb dL_law_89 rfl (lv_at hl 0 rfl) ?_
    refine lv_iload_n hx hb dL_law_90 rfl (lv_at hl 3 rfl) ?_
    refine lv_iconst (v := nI 1) hx hb dL_law_91 (by decide) ?_
    refine lv_iadd hx hb dL_law_92 ?_
    refine tp_i (y := nI ((6 * t) + 1)) (nI_add (6 * t) 1) ?_
    refine ldx hx hb hX hbl hS (by omega) hL3 dL_law_93 ?_
    refine tp_i (y := nI g) (eg) ?_
    refine lv_aload_n hx hb dL_law_94 rfl (lv_at hl 0 rfl) ?_
    refine lv_iload_n hx hb dL_law_95 rfl (lv_at hl 3 rfl) ?_
    refine lv_iconst (v := nI 2) hx hb dL_law_96 (by decide) ?_
    refine lv_iadd hx hb dL_law_97 ?_
    refine tp_i (y := nI ((6 * t) + 2)) (nI_add (6 * t) 2) ?_
    refine ldx hx hb hX hbl hS (by omega) hL3 dL_law_98 ?_
    refine lv_i2l hx hb dL_law_99 rfl ?_
    refine lv_bipush (v := nI 32) hx hb dL_law_100 (by decide) ?_
    refine lv_lshl hx hb dL_law_102 rfl ?_
    refine lv_aload_n hx hb dL_law_103 rfl (lv_at hl 0 rfl) ?_
    refine lv_iload_n hx hb dL_law_104 rfl (lv_at hl 3 rfl) ?_
    refine lv_iconst (v := nI 3) hx hb dL_law_105 (by decide) ?_
    refine lv_iadd hx hb dL_law_106 ?_
    refine tp_i (y := nI ((6 * t) + 3)) (nI_add (6 * t) 3) ?_
    refine ldx hx hb hX hbl hS (by omega) hL3 dL_law_107 ?_
    refine lv_i2l hx hb dL_law_108 rfl ?_
    refine lv_ldc2 (v := 4294967295) hx hb hown (hts _ (by decide +kernel : Cond.constantLong RL 13 4294967295 ∈ tT)) dL_law_109 ?_
    refine lv_land hx hb dL_law_112 ?_
    refine lv_lor hx hb dL_law_113 ?_
    refine tp_l (y := lw2 (xs (6 * t + 2)) (xs (6 * t + 3))) (rfl) ?_
    refine lv_aload_n hx hb dL_law_114 rfl (lv_at hl 0 rfl) ?_
    refine lv_iload_n hx hb dL_law_115 rfl (lv_at hl 3 rfl) ?_
    refine lv_iconst (v := nI 4) hx hb dL_law_116 (by decide) ?_
    refine lv_iadd hx hb dL_law_117 ?_
    refine tp_i (y := nI ((6 * t) + 4)) (nI_add (6 * t) 4) ?_
    refine ldx hx hb hX hbl hS (by omega) hL3 dL_law_118 ?_
    refine lv_i2l hx hb dL_law_119 rfl ?_
    refine lv_bipush (v := nI 32) hx hb dL_law_120 (by decide) ?_
    refine lv_lshl hx hb dL_law_122 rfl ?_
    refine lv_aload_n hx hb dL_law_123 rfl (lv_at hl 0 rfl) ?_
    refine lv_iload_n hx hb dL_law_124 rfl (lv_at hl 3 rfl) ?_
    refine lv_iconst (v := nI 5) hx hb dL_law_125 (by decide) ?_
    refine lv_iadd hx hb dL_law_126 ?_
    refine tp_i (y := nI ((6 * t) + 5)) (nI_add (6 * t) 5) ?_
    refine ldx hx hb hX hbl hS (by omega) hL3 dL_law_127 ?_
    refine lv_i2l hx hb dL_law_128 rfl ?_
    refine lv_ldc2 (v := 4294967295) hx hb hown (hts _ (by decide +kernel : Cond.constantLong RL 13 4294967295 ∈ tT)) dL_law_129 ?_
    refine lv_land hx hb dL_law_132 ?_
    refine lv_lor hx hb dL_law_133 ?_
    refine tp_l (y := lw2 (xs (6 * t + 4)) (xs (6 * t + 5))) (rfl) ?_
    refine wi (va_runV (As := [.int (nI g), .long (lw2 (xs (6 * t + 2)) (xs (6 * t + 3))), .long (lw2 (xs (6 * t + 4)) (xs (6 * t + 5)))]) (rest := []) ⟨hx, hb, hml, hown, hts⟩ (cD_place l hP hD hg (lw2 (xs (6 * t + 2)) (xs (6 * t + 3))) (lw2 (xs (6 * t + 4)) (xs (6 * t + 5))) h2 h3 h4) (cwV 3 hts gL_15 rfl rfl rfl (by decide +kernel) (rmF hR (by decide) (by decide))) (kP_V C (va_recv C.2.2.2.2.1 hP (ci := ciD) (q0 := 0) rfl rfl)) rfl rfl hl.1 rfl (lv_room (Nat.le_of_ble_eq_true rfl)) dL_law_134 ⟨by show _ ≤ 600000; omega, by show _ ≤ 7302249; omega⟩) hS (fun r _ H locs hq hP hD hS => ?_)
    subst hq
    refine lv_aload_n hx hb dL_law_137 rfl (lv_at hl 2 rfl) ?_
    refine lv_aload_n hx hb dL_law_138 rfl (lv_at hl 0 rfl) ?_
    refine lv_iload_n hx hb dL_law_139 rfl (lv_at hl 3 rfl) ?_
    refine lv_iconst (v := nI 1) hx hb dL_law_140 (by decide) ?_
    refine lv_iadd hx hb dL_law_141 ?_
    refine tp_i (y := nI ((6 * t) + 1)) (nI_add (6 * t) 1) ?_
    refine ldx hx hb hX hbl hS (by omega) hL3 dL_law_142 ?_
    refine tp_i (y := nI g) (eg) ?_
    refine lv_aload_n hx hb dL_law_143 rfl (lv_at hl 0 rfl) ?_
    refine lv_iload_n hx hb dL_law_144 rfl (lv_at hl 3 rfl) ?_
    refine lv_iconst (v := nI 2) hx hb dL_law_145 (by decide) ?_
    refine lv_iadd hx hb dL_law_146 ?_
    refine tp_i (y := nI ((6 * t) + 2)) (nI_add (6 * t) 2) ?_
    refine ldx hx hb hX hbl hS (by omega) hL3 dL_law_147 ?_
    refine lv_i2l hx hb dL_law_148 rfl ?_
    refine lv_bipush (v := nI 32) hx hb dL_law_149 (by decide) ?_
    refine lv_lshl hx hb dL_law_151 rfl ?_
    refine lv_aload_n hx hb dL_law_152 rfl (lv_at hl 0 rfl) ?_
    refine lv_iload_n hx hb dL_law_153 rfl (lv_at hl 3 rfl) ?_
    refine lv_iconst (v := nI 3) hx hb dL_law_154 (by decide) ?_
    refine lv_iadd hx hb dL_law_155 ?_
    refine tp_i (y := nI ((6 * t) + 3)) (nI_add (6 * t) 3) ?_
    refine ldx hx hb hX hbl hS (by omega) hL3 dL_law_156 ?_
    refine lv_i2l hx hb dL_law_157 rfl ?_
    refine lv_ldc2 (v := 4294967295) hx hb hown (hts _ (by decide +kernel : Cond.constantLong RL 13 4294967295 ∈ tT)) dL_law_158 ?_
    refine lv_land hx hb dL_law_161 ?_
    refine lv_lor hx hb dL_law_162 ?_
    refine tp_l (y := lw2 (xs (6 * t + 2)) (xs (6 * t + 3))) (rfl) ?_
    refine lv_aload_n hx hb dL_law_163 rfl (lv_at hl 0 rfl) ?_
    refine lv_iload_n hx hb dL_law_164 rfl (lv_at hl 3 rfl) ?_
    refine lv_iconst (v := nI 4) hx hb dL_law_165 (by decide) ?_
    refine lv_iadd hx hb dL_law_166 ?_
    refine tp_i (y := nI ((6 * t) + 4)) (nI_add (6 * t) 4) ?_
    refine ldx hx hb hX hbl hS (by omega) hL3 dL_law_167 ?_
    refine lv_i2l hx hb dL_law_168 rfl ?_
    refine lv_bipush (v := nI 32) hx hb dL_law_169 (by decide) ?_
    refine lv_lshl hx hb dL_law_171 rfl ?_
    refine lv_aload_n hx hb dL_law_172 rfl (lv_at hl 0 rfl) ?_
    refine lv_iload_n hx hb dL_law_173 rfl (lv_at hl 3 rfl) ?_
    refine lv_iconst (v := nI 5) hx hb dL_law_174 (by decide) ?_
    refine lv_iadd hx hb dL_law_175 ?_
    refine tp_i (y := nI ((6 * t) + 5)) (nI_add (6 * t) 5) ?_
    refine ldx hx hb hX hbl hS (by omega) hL3 dL_law_176 ?_
    refine lv_i2l hx hb dL_law_177 rfl ?_
    refine lv_ldc2 (v := 4294967295) hx hb hown (hts _ (by decide +kernel : Cond.constantLong RL 13 4294967295 ∈ tT)) dL_law_178 ?_
    refine lv_land hx hb dL_law_181 ?_
    refine lv_lor hx hb dL_law_182 ?_
    refine tp_l (y := lw2 (xs (6 * t + 4)) (xs (6 * t + 5))) (rfl) ?_
    refine wi (va_runV (As := [.int (nI g), .long (lw2 (xs (6 * t + 2)) (xs (6 * t + 3))), .long (lw2 (xs (6 * t + 4)) (xs (6 * t + 5)))]) (rest := [.int (nI 1)]) ⟨hx, hb, hml, hown, hts⟩ (cM_place l (dmP hP) (dmD hD) hg (lw2 (xs (6 * t + 2)) (xs (6 * t + 3))) (lw2 (xs (6 * t + 4)) (xs (6 * t + 5))) h2 h3 h4) (cwV 3 hts gL_19 rfl rfl rfl (by decide +kernel) (rmF hR (by decide) (by decide))) (kP_V C (va_recv C.2.2.2.2.1 (dmP hP) (ci := ciM) (q0 := 0) rfl rfl)) rfl rfl hl.1 rfl (lv_room (Nat.le_of_ble_eq_true rfl)) dL_law_183 ⟨by show _ ≤ 600000; omega, by show _ ≤ 7302249; omega⟩) hS (fun r _ H locs hq hP hD hS => ?_)
    subst hq
    have hP := mdP hP
    have hD := mdD hD
    refine lv_icmp_eq (tgt := 430) hx hb dL_law_186 (by decide) (fun c9 => ?_) (fun c9 => ?_)
    · exact kk (LI_place Lh (isV_of h3).1 (i64_le.mp h4) (isV_of h2).2) hP hD hS (lv_sub hl [0, 1, 2, 3] rfl) (by omega) (by omega)
    · exact absurd (rfl) c9
  · refine lv_aload_n hx hb dL_law_88 rfl (lv_at hl 1 rfl) ?_
    refine lv_aload_n hx hb dL_law_89 rfl (lv_at hl 0 rfl) ?_
    refine lv_iload_n hx hb dL_law_90 rfl (lv_at hl 3 rfl) ?_
    refine lv_iconst (v := nI 1) hx hb dL_law_91 (by decide) ?_
    refine lv_iadd hx hb dL_law_92 ?_
    refine tp_i (y := nI ((6 * t) + 1)) (nI_add (6 * t) 1) ?_
    refine ldx hx hb hX hbl hS (by omega) hL3 dL_law_93 ?_
    refine lv_aload_n hx hb dL_law_94 rfl (lv_at hl 0 rfl) ?_
    refine lv_iload_n hx hb dL_law_95 rfl (lv_at hl 3 rfl) ?_
    refine lv_iconst (v := nI 2) hx hb dL_law_96 (by decide) ?_
    refine lv_iadd hx hb dL_law_97 ?_
    refine tp_i (y := nI ((6 * t) + 2)) (nI_add (6 * t) 2) ?_
    refine ldx hx hb hX hbl hS (by omega) hL3 dL_law_98 ?_
    refine lv_i2l hx hb dL_law_99 rfl ?_
    refine lv_bipush (v := nI 32) hx hb dL_law_100 (by decide) ?_
    refine lv_lshl hx hb dL_law_102 rfl ?_
    refine lv_aload_n hx hb dL_law_103 rfl (lv_at hl 0 rfl) ?_
    refine lv_iload_n hx hb dL_law_104 rfl (lv_at hl 3 rfl) ?_
    refine lv_iconst (v := nI 3) hx hb dL_law_105 (by decide) ?_
    refine lv_iadd hx hb dL_law_106 ?_
    refine tp_i (y := nI ((6 * t) + 3)) (nI_add (6 * t) 3) ?_
    refine ldx hx hb hX hbl hS (by omega) hL3 dL_law_107 ?_
    refine lv_i2l hx hb dL_law_108 rfl ?_
    refine lv_ldc2 (v := 4294967295) hx hb hown (hts _ (by decide +kernel : Cond.constantLong RL 13 4294967295 ∈ tT)) dL_law_109 ?_
    refine lv_land hx hb dL_law_112 ?_
    refine lv_lor hx hb dL_law_113 ?_
    refine tp_l (y := lw2 (xs (6 * t + 2)) (xs (6 * t + 3))) (rfl) ?_
    refine lv_aload_n hx hb dL_law_114 rfl (lv_at hl 0 rfl) ?_
    refine lv_iload_n hx hb dL_law_115 rfl (lv_at hl 3 rfl) ?_
    refine lv_iconst (v := nI 4) hx hb dL_law_116 (by decide) ?_
    refine lv_iadd hx hb dL_law_117 ?_
    refine tp_i (y := nI ((6 * t) + 4)) (nI_add (6 * t) 4) ?_
    refine ldx hx hb hX hbl hS (by omega) hL3 dL_law_118 ?_
    refine lv_i2l hx hb dL_law_119 rfl ?_
    refine lv_bipush (v := nI 32) hx hb dL_law_120 (by decide) ?_
    refine lv_lshl hx hb dL_law_122 rfl ?_
    refine lv_aload_n hx hb dL_law_123 rfl (lv_at hl 0 rfl) ?_
    refine lv_iload_n hx hb dL_law_124 rfl (lv_at hl 3 rfl) ?_
    refine lv_iconst (v := nI 5) hx hb dL_law_125 (by decide) ?_
    refine lv_iadd hx hb dL_law_126 ?_
    refine tp_i (y := nI ((6 * t) + 5)) (nI_add (6 * t) 5) ?_
    refine ldx hx hb hX hbl hS (by omega) hL3 dL_law_127 ?_
    refine lv_i2l hx hb dL_law_128 rfl ?_
    refine lv_ldc2 (v := 4294967295) hx hb hown (hts _ (by decide +kernel : Cond.constantLong RL 13 4294967295 ∈ tT)) dL_law_129 ?_
    refine lv_land hx hb dL_law_132 ?_
    refine lv_lor hx hb dL_law_133 ?_
    refine tp_l (y := lw2 (xs (6 * t + 4)) (xs (6 * t + 5))) (rfl) ?_
    refine pv (va_runV (As := [.int (xs ((6 * t) + 1)), .long (lw2 (xs (6 * t + 2)) (xs (6 * t + 3))), .long (lw2 (xs (6 * t + 4)) (xs (6 * t + 5)))]) (rest := []) ⟨hx, hb, hml, hown, hts⟩ (cD_place_no l hP (xs (6 * t + 1)) (lw2 (xs (6 * t + 2)) (xs (6 * t + 3))) (lw2 (xs (6 * t + 4)) (xs (6 * t + 5))) h) (cwV 3 hts gL_15 rfl rfl rfl (by decide +kernel) (rmF hR (by decide) (by decide))) (kP_V C (va_recv C.2.2.2.2.1 hP (ci := ciD) (q0 := 0) rfl rfl)) rfl rfl hl.1 rfl (lv_room (Nat.le_of_ble_eq_true rfl)) dL_law_134 ⟨by show _ ≤ 600000; omega, by show _ ≤ 7302249; omega⟩) ?_
    refine lv_aload_n hx hb dL_law_137 rfl (lv_at hl 2 rfl) ?_
    refine lv_aload_n hx hb dL_law_138 rfl (lv_at hl 0 rfl) ?_
    refine lv_iload_n hx hb dL_law_139 rfl (lv_at hl 3 rfl) ?_
    refine lv_iconst (v := nI 1) hx hb dL_law_140 (by decide) ?_
    refine lv_iadd hx hb dL_law_141 ?_
    refine tp_i (y := nI ((6 * t) + 1)) (nI_add (6 * t) 1) ?_
    refine ldx hx hb hX hbl hS (by omega) hL3 dL_law_142 ?_
    refine lv_aload_n hx hb dL_law_143 rfl (lv_at hl 0 rfl) ?_
    refine lv_iload_n hx hb dL_law_144 rfl (lv_at hl 3 rfl) ?_
    refine lv_iconst (v := nI 2) hx hb dL_law_145 (by decide) ?_
    refine lv_iadd hx hb dL_law_146 ?_
    refine tp_i (y := nI ((6 * t) + 2)) (nI_add (6 * t) 2) ?_
    refine ldx hx hb hX hbl hS (by omega) hL3 dL_law_147 ?_
    refine lv_i2l hx hb dL_law_148 rfl ?_
    refine lv_bipush (v := nI 32) hx hb dL_law_149 (by decide) ?_
    refine lv_lshl hx hb dL_law_151 rfl ?_
    refine lv_aload_n hx hb dL_law_152 rfl (lv_at hl 0 rfl) ?_
    refine lv_iload_n hx hb dL_law_153 rfl (lv_at hl 3 rfl) ?_
    refine lv_iconst (v := nI 3) hx hb dL_law_154 (by decide) ?_
    refine lv_iadd hx hb dL_law_155 ?_
    refine tp_i (y := nI ((6 * t) + 3)) (nI_add (6 * t) 3) ?_
    refine ldx hx hb hX hbl hS (by omega) hL3 dL_law_156 ?_
    refine lv_i2l hx hb dL_law_157 rfl ?_
    refine lv_ldc2 (v := 4294967295) hx hb hown (hts _ (by decide +kernel : Cond.constantLong RL 13 4294967295 ∈ tT)) dL_law_158 ?_
    refine lv_land hx hb dL_law_161 ?_
    refine lv_lor hx hb dL_law_162 ?_
    refine tp_l (y := lw2 (xs (6 * t + 2)) (xs (6 * t + 3))) (rfl) ?_
    refine lv_aload_n hx hb dL_law_163 rfl (lv_at hl 0 rfl) ?_
    refine lv_iload_n hx hb dL_law_164 rfl (lv_at hl 3 rfl) ?_
    refine lv_iconst (v := nI 4) hx hb dL_law_165 (by decide) ?_
    refine lv_iadd hx hb dL_law_166 ?_
    refine tp_i (y := nI ((6 * t) + 4)) (nI_add (6 * t) 4) ?_
    refine ldx hx hb hX hbl hS (by omega) hL3 dL_law_167 ?_
    refine lv_i2l hx hb dL_law_168 rfl ?_
    refine lv_bipush (v := nI 32) hx hb dL_law_169 (by decide) ?_
    refine lv_lshl hx hb dL_law_171 rfl ?_
    refine lv_aload_n hx hb dL_law_172 rfl (lv_at hl 0 rfl) ?_
    refine lv_iload_n hx hb dL_law_173 rfl (lv_at hl 3 rfl) ?_
    refine lv_iconst (v := nI 5) hx hb dL_law_174 (by decide) ?_
    refine lv_iadd hx hb dL_law_175 ?_
    refine tp_i (y := nI ((6 * t) + 5)) (nI_add (6 * t) 5) ?_
    refine ldx hx hb hX hbl hS (by omega) hL3 dL_law_176 ?_
    refine lv_i2l hx hb dL_law_177 rfl ?_
    refine lv_ldc2 (v := 4294967295) hx hb hown (hts _ (by decide +kernel : Cond.constantLong RL 13 4294967295 ∈ tT)) dL_law_178 ?_
    refine lv_land hx hb dL_law_181 ?_
    refine lv_lor hx hb dL_law_182 ?_
    refine tp_l (y := lw2 (xs (6 * t + 4)) (xs (6 * t + 5))) (rfl) ?_
    refine pv (va_runV (As := [.int (xs ((6 * t) + 1)), .long (lw2 (xs (6 * t + 2)) (xs (6 * t + 3))), .long (lw2 (xs (6 * t + 4)) (xs (6 * t + 5)))]) (rest := [.int (nI 0)]) ⟨hx, hb, hml, hown, hts⟩ (cM_place_no l (dmP hP) (xs (6 * t + 1)) (lw2 (xs (6 * t + 2)) (xs (6 * t + 3))) (lw2 (xs (6 * t + 4)) (xs (6 * t + 5))) h) (cwV 3 hts gL_19 rfl rfl rfl (by decide +kernel) (rmF hR (by decide) (by decide))) (kP_V C (va_recv C.2.2.2.2.1 (dmP hP) (ci := ciM) (q0 := 0) rfl rfl)) rfl rfl hl.1 rfl (lv_room (Nat.le_of_ble_eq_true rfl)) dL_law_183 ⟨by show _ ≤ 600000; omega, by show _ ≤ 7302249; omega⟩) ?_
    refine lv_icmp_eq (tgt := 430) hx hb dL_law_186 (by decide) (fun c9 => ?_) (fun c9 => ?_)
    · exact kk (Lh) hP hD hS (lv_sub hl [0, 1, 2, 3] rfl) (by omega) (by omega)
    · exact absurd (rfl) c9
set_option maxHeartbeats 1000000 in
set_option maxRecDepth 100000 in
theorem law_solve (G : lC D K p s m c b L xs) (ht : 6 * t + 6 ≤ L) (Lh : LI va fl n tc sc T S us ps am va' fl' th ch mn po an) (hP : va_P D vwCl (dW (mW [] o' K va' fl' n th ch mn po an) o K ad va fl af bl n tc sc T S us ps am) H) (hD : va_D (fun q => s.heap.size ≤ q) (dW (mW [] o' K va' fl' n th ch mn po an) o K ad va fl af bl n tc sc T S us ps am)) (hS : va_S (fun q => s.heap.size ≤ q) s.heap H locs) (hl : lv_has ls 4 [(0, .ref b), (1, .ref (o 0)), (2, .ref (o' 0)), (3, .int (nI (6 * t)))]) (hc : cells ≤ 20 + 3 * t) (hs : slots ≤ 20000 + 37 * t) (kk : LK p l e s m below meth c b t Q D K o o' 430 3 37) : W p l e room_1 s m #[Value.ref b] below meth c H locs cells slots Q (F0 m 300 ls []) := by
  obtain ⟨C, hml, hX, hbl, hL3⟩ := G
  have hx := C.1
  have hb := C.2.1
  have hown := C.2.2.1
  have hts := C.2.2.2.1
  have hR : rmOk room_1 8 0 0 := ⟨by decide, by decide, Nat.zero_le _, Nat.zero_le _⟩
  have hn200 : n ≤ 200 := Lh.1.1
  have hTt : ∀ i, i < n → T i = th i := fun i hi => (Lh.2.2.2.2.1 i hi).1
  have hE := fgE Lh.1 Lh.2.1 S af bl
  have hth : ∀ i, n ≤ i → th i = false := fun i hi => (Lh.2.2.2.2.2 i hi).1
  have hch : ∀ i, n ≤ i → ch i = false := fun i hi => (Lh.2.2.2.2.2 i hi).2.1
  refine lv_aload_n hx hb dL_law_300 rfl (lv_at hl 1 rfl) ?_
  refine wi (va_runV (As := []) (rest := []) ⟨hx, hb, hml, hown, hts⟩ (cD_solve l hP hD Lh.1 Lh.2.1) (cwV 0 hts gL_35 rfl rfl rfl (by decide +kernel) (rmF hR (by decide) (by decide))) (kP_V C (va_recv C.2.2.2.2.1 hP (ci := ciD) (q0 := 0) rfl rfl)) rfl rfl hl.1 rfl (lv_room (Nat.le_of_ble_eq_true rfl)) dL_law_301 ⟨by show _ ≤ 600000; omega, by show _ ≤ 7302249; omega⟩) hS (fun r _ H locs hq hP hD hS => ?_)
  subst hq
  refine lv_aload_n hx hb dL_law_304 rfl (lv_at hl 2 rfl) ?_
  refine wi (va_runV (As := []) (rest := [.int (nI (fg us ps am T va fl n 201 (st_s T S n, af, bl, tc)).2.2.2)]) ⟨hx, hb, hml, hown, hts⟩ (cM_solve l (dmP hP) (dmD hD) (LI_model Lh) hth hch) (cwV 0 hts gL_38 rfl rfl rfl (by decide +kernel) (rmF hR (by decide) (by decide))) (kP_V C (va_recv C.2.2.2.2.1 (dmP hP) (ci := ciM) (q0 := 0) rfl rfl)) rfl rfl hl.1 rfl (lv_room (Nat.le_of_ble_eq_true rfl)) dL_law_305 ⟨by show _ ≤ 600000; omega, by show _ ≤ 7302249; omega⟩) hS (fun r u H locs hq hP hD hS => ?_)
  obtain ⟨rfl, hms, hgd⟩ := hq
  have hP := mdP hP
  have hD := mdD hD
  have Lh2 := LI_solve Lh hE hms hgd
  refine lv_icmp_eq (tgt := 430) hx hb dL_law_308 (by decide) (fun c9 => ?_) (fun c9 => ?_)
  · exact kk (Lh2) hP hD hS (lv_sub hl [0, 1, 2, 3] rfl) (by omega) (by omega)
  · exact absurd (congrArg nI (cn_200 Lh2).1.symm) c9
set_option maxHeartbeats 1000000 in
set_option maxRecDepth 100000 in
theorem law_perform (G : lC D K p s m c b L xs) (ht : 6 * t + 6 ≤ L) (Lh : LI va fl n tc sc T S us ps am va' fl' th ch mn po an) (hP : va_P D vwCl (dW (mW [] o' K va' fl' n th ch mn po an) o K ad va fl af bl n tc sc T S us ps am) H) (hD : va_D (fun q => s.heap.size ≤ q) (dW (mW [] o' K va' fl' n th ch mn po an) o K ad va fl af bl n tc sc T S us ps am)) (hS : va_S (fun q => s.heap.size ≤ q) s.heap H locs) (hl : lv_has ls 4 [(0, .ref b), (1, .ref (o 0)), (2, .ref (o' 0)), (3, .int (nI (6 * t)))]) (hc : cells ≤ 20 + 3 * t) (hs : slots ≤ 20000 + 37 * t) (kk : LK p l e s m below meth c b t Q D K o o' 430 3 37) : W p l e room_1 s m #[Value.ref b] below meth c H locs cells slots Q (F0 m 336 ls []) := by
  obtain ⟨C, hml, hX, hbl, hL3⟩ := G
  have hx := C.1
  have hb := C.2.1
  have hown := C.2.2.1
  have hts := C.2.2.2.1
  have hR : rmOk room_1 8 0 0 := ⟨by decide, by decide, Nat.zero_le _, Nat.zero_le _⟩
  have hn200 : n ≤ 200 := Lh.1.1
  have hTt : ∀ i, i < n → T i = th i := fun i hi => (Lh.2.2.2.2.1 i hi).1
  have hE := fgE Lh.1 Lh.2.1 S af bl
  have hth : ∀ i, n ≤ i → th i = false := fun i hi => (Lh.2.2.2.2.2 i hi).1
  have hch : ∀ i, n ≤ i → ch i = false := fun i hi => (Lh.2.2.2.2.2 i hi).2.1
  cases hv : vfB (fg us ps am T va fl n 201 (st_s T S n, af, bl, tc)).2.1 with
  | false =>
    refine lv_aload_n hx hb dL_law_336 rfl (lv_at hl 1 rfl) ?_
    refine wi (va_runV (As := []) (rest := []) ⟨hx, hb, hml, hown, hts⟩ (cD_perform_no l hP hD Lh.1 Lh.2.1 hv) (cwV 0 hts gL_43 rfl rfl rfl (by decide +kernel) (rmF hR (by decide) (by decide))) (kP_V C (va_recv C.2.2.2.2.1 hP (ci := ciD) (q0 := 0) rfl rfl)) rfl rfl hl.1 rfl (lv_room (Nat.le_of_ble_eq_true rfl)) dL_law_337 ⟨by show _ ≤ 600000; omega, by show _ ≤ 7302249; omega⟩) hS (fun r _ H locs hq hP hD hS => ?_)
    subst hq
    refine lv_aload_n hx hb dL_law_340 rfl (lv_at hl 2 rfl) ?_
    refine wi (va_runV (As := []) (rest := [.int (-1)]) ⟨hx, hb, hml, hown, hts⟩ (cM_perform l (dmP hP) (dmD hD) (LI_model Lh) hth hch) (cwV 0 hts gL_46 rfl rfl rfl (by decide +kernel) (rmF hR (by decide) (by decide))) (kP_V C (va_recv C.2.2.2.2.1 (dmP hP) (ci := ciM) (q0 := 0) rfl rfl)) rfl rfl hl.1 rfl (lv_room (Nat.le_of_ble_eq_true rfl)) dL_law_341 ⟨by show _ ≤ 600000; omega, by show _ ≤ 7302249; omega⟩) hS (fun r u H locs hq hP hD hS => ?_)
    obtain ⟨hms, hgd, hor⟩ := hq
    have Lh2 := LI_solve Lh hE hms hgd
    have hte := tot_eq Lh2 hE.2.2.2
    rcases hor with ⟨-, rfl, e1, e2⟩ | ⟨hall, -, -, -⟩
    · rw [e1, e2] at hP hD
      have hP := mdP hP
      have hD := mdD hD
      refine lv_icmp_eq (tgt := 430) hx hb dL_law_344 (by decide) (fun c9 => ?_) (fun c9 => ?_)
      · exact kk (Lh2) hP hD hS (lv_sub hl [0, 1, 2, 3] rfl) (by omega) (by omega)
      · exact absurd (rfl) c9
    · exfalso
      have hv := of_decide_eq_false hv
      exact hv (fun q hq => decide_eq_false (by rw [← hte q hq]; exact hall q hq))
  | true =>
    refine lv_aload_n hx hb dL_law_336 rfl (lv_at hl 1 rfl) ?_
    refine wi (va_runV (As := []) (rest := []) ⟨hx, hb, hml, hown, hts⟩ (cD_perform l hP hD Lh.1 Lh.2.1 hv) (cwV 0 hts gL_43 rfl rfl rfl (by decide +kernel) (rmF hR (by decide) (by decide))) (kP_V C (va_recv C.2.2.2.2.1 hP (ci := ciD) (q0 := 0) rfl rfl)) rfl rfl hl.1 rfl (lv_room (Nat.le_of_ble_eq_true rfl)) dL_law_337 ⟨by show _ ≤ 600000; omega, by show _ ≤ 7302249; omega⟩) hS (fun r _ H locs hq hP hD hS => ?_)
    subst hq
    refine lv_aload_n hx hb dL_law_340 rfl (lv_at hl 2 rfl) ?_
    refine wi (va_runV (As := []) (rest := [.int (nI (fg us ps am T va fl n 201 (st_s T S n, af, bl, tc)).2.2.2)]) ⟨hx, hb, hml, hown, hts⟩ (cM_perform l (dmP hP) (dmD hD) (LI_model Lh) hth hch) (cwV 0 hts gL_46 rfl rfl rfl (by decide +kernel) (rmF hR (by decide) (by decide))) (kP_V C (va_recv C.2.2.2.2.1 (dmP hP) (ci := ciM) (q0 := 0) rfl rfl)) rfl rfl hl.1 rfl (lv_room (Nat.le_of_ble_eq_true rfl)) dL_law_341 ⟨by show _ ≤ 600000; omega, by show _ ≤ 7302249; omega⟩) hS (fun r u H locs hq hP hD hS => ?_)
    obtain ⟨hms, hgd, hor⟩ := hq
    have Lh2 := LI_solve Lh hE hms hgd
    have hte := tot_eq Lh2 hE.2.2.2
    have hv := of_decide_eq_true hv
    rcases hor with ⟨⟨g, hg, hgt⟩, -, -, -⟩ | ⟨hall, rfl, e1, e2⟩
    · exfalso
      rw [hte g hg] at hgt
      exact of_decide_eq_false (hv g hg) hgt
    · rw [e1, e2] at hP hD
      have hP := mdP hP
      have hD := mdD hD
      have Lh3 := LI_perform Lh2 (af := (fg us ps am T va fl n 201 (st_s T S n, af, bl, tc)).2.1) (va2 := va_cpy (fg us ps am T va fl n 201 (st_s T S n, af, bl, tc)).2.1 va 0 0 300) (va2' := m_pv mn po an u.1 n va' 300) (T2 := d_en (fg us ps am T va fl n 201 (st_s T S n, af, bl, tc)).1 T n) (th2 := m_nt u.1 th n) hE.1 hE.2.2.2
        (fun q hq => by have z := of_decide_eq_false (hv q hq); rw [i64_lt, show (1000000000000000000 : Int64).toInt = 1000000000000000000 by decide] at z; omega)
        (fun q hq => by rw [pk_cpy_in (Nat.zero_le q) (by omega), Nat.zero_add, Nat.sub_zero])
        (fun q hq => by rw [(m_pv_at 300 q).1 hq]; exact m_tot_v (LI_model Lh2) u.1 hq n (Nat.le_refl n))
        (fun i hi => (d_en_at n i).1 hi) (fun i hi => (m_nt_at n i).1 hi) (fun i hi => by rw [(m_nt_at n i).2 hi]; exact hth i hi)
      refine lv_icmp_eq (tgt := 430) hx hb dL_law_344 (by decide) (fun c9 => ?_) (fun c9 => ?_)
      · exact kk (Lh3) hP hD hS (lv_sub hl [0, 1, 2, 3] rfl) (by omega) (by omega)
      · exact absurd (congrArg nI (cn_200 Lh2).1.symm) c9
end LAWC
