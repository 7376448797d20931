/-! THE REFERENCE: its looking methods -/
theorem fs_eq2 {q : Nat → Bool} {m k0 k : Nat} (h1 : k0 ≤ k) (h2 : k < k0 + m) (h : q k = true) (hm : ∀ j, k0 ≤ j → j < k → q j = false) : fs q m k0 = k := by
  have g1 := fs_le q m k0
  have g2 := fs_ge q m k0
  rcases Nat.lt_trichotomy (fs q m k0) k with z | z | z
  · have := fs_hit q m k0 (by omega)
    rw [hm _ g2 z] at this
    cases this
  · exact z
  · have := fs_miss q m k0 k h1 z
    rw [h] at this
    cases this
theorem fs_no2 {q : Nat → Bool} {m k0 : Nat} (hm : ∀ j, k0 ≤ j → j < k0 + m → q j = false) : fs q m k0 = k0 + m := by
  have g1 := fs_le q m k0
  have g2 := fs_ge q m k0
  rcases Nat.lt_or_ge (fs q m k0) (k0 + m) with z | z
  · have := fs_hit q m k0 z
    rw [hm _ g2 z] at this
    cases this
  · omega
theorem tot_t {mn po : Nat → Nat} {an va : Nat → Int64} {ch : Nat → Bool} {p i : Nat} (h : ch i = true) : m_tot mn po an va ch p i + netA mn po an i p = m_tot mn po an va ch p (i + 1) := by
  show _ = m_tot mn po an va ch p i + (if ch i = true then netA mn po an i p else 0)
  rw [if_pos h]
theorem tot_f {mn po : Nat → Nat} {an va : Nat → Int64} {ch : Nat → Bool} {p i : Nat} (h : ch i = false) : m_tot mn po an va ch p i + 0 = m_tot mn po an va ch p (i + 1) := by
  show _ = m_tot mn po an va ch p i + (if ch i = true then netA mn po an i p else 0)
  rw [if_neg (by rw [h]; decide)]
theorem last_t {mn po : Nat → Nat} {an : Nat → Int64} {ch : Nat → Bool} {p i : Nat} (h : ch i = true) (h2 : netA mn po an i p < 0) : nI i = m_last mn po an ch p (i + 1) := (if_pos ⟨h, h2⟩).symm
theorem last_f {mn po : Nat → Nat} {an : Nat → Int64} {ch : Nat → Bool} {p i : Nat} (h : ch i = false) : m_last mn po an ch p i = m_last mn po an ch p (i + 1) := (if_neg (fun z => by rw [h] at z; cases z.1)).symm
theorem last_f2 {mn po : Nat → Nat} {an : Nat → Int64} {ch : Nat → Bool} {p i : Nat} (h : ¬ netA mn po an i p < 0) : m_last mn po an ch p i = m_last mn po an ch p (i + 1) := (if_neg (fun z => h z.2)).symm
theorem meet_1 {mn po : Nat → Nat} {an : Nat → Int64} {a b k : Nat} (h : m_meet mn po an a b k = true) : m_meet mn po an a b (k + 1) = true := by unfold m_meet; rw [h]; rfl
theorem meet_2 {mn po : Nat → Nat} {an : Nat → Int64} {a b k : Nat} (h1 : an (16 * a + k) < 0) (h2 : netA mn po an b (po (16 * a + k)) < 0) : m_meet mn po an a b (k + 1) = true := by unfold m_meet; rw [decide_eq_true h1, decide_eq_true h2, Bool.and_self, Bool.or_true]
theorem meet_3 {mn po : Nat → Nat} {an : Nat → Int64} {a b k : Nat} (h : m_meet mn po an a b k = false) (h1 : ¬ an (16 * a + k) < 0) : m_meet mn po an a b (k + 1) = false := by unfold m_meet; rw [h, decide_eq_false h1]; rfl
theorem meet_4 {mn po : Nat → Nat} {an : Nat → Int64} {a b k : Nat} (h : m_meet mn po an a b k = false) (h2 : ¬ netA mn po an b (po (16 * a + k)) < 0) : m_meet mn po an a b (k + 1) = false := by unfold m_meet; rw [h, decide_eq_false h2, Bool.and_false]; rfl
theorem lack_1 {mn po : Nat → Nat} {an : Nat → Int64} {T ch : Nat → Bool} {i j : Nat} (h : m_lack mn po an T ch i j = true) : m_lack mn po an T ch i (j + 1) = true := by unfold m_lack; rw [h]; rfl
theorem lack_2 {mn po : Nat → Nat} {an : Nat → Int64} {T ch : Nat → Bool} {i j : Nat} (h1 : T j = true) (h2 : ch j = false) (h3 : m_meet mn po an j i (mn j) = true) : m_lack mn po an T ch i (j + 1) = true := by unfold m_lack; rw [h1, h2, h3]; simp
theorem lack_3 {mn po : Nat → Nat} {an : Nat → Int64} {T ch : Nat → Bool} {i j : Nat} (h : m_lack mn po an T ch i j = false) (h1 : T j = false) : m_lack mn po an T ch i (j + 1) = false := by unfold m_lack; rw [h, h1]; rfl
theorem lack_4 {mn po : Nat → Nat} {an : Nat → Int64} {T ch : Nat → Bool} {i j : Nat} (h : m_lack mn po an T ch i j = false) (h1 : ch j = true) : m_lack mn po an T ch i (j + 1) = false := by unfold m_lack; rw [h, h1]; simp
theorem lack_5 {mn po : Nat → Nat} {an : Nat → Int64} {T ch : Nat → Bool} {i j : Nat} (h : m_lack mn po an T ch i j = false) (h3 : m_meet mn po an j i (mn j) = false) : m_lack mn po an T ch i (j + 1) = false := by unfold m_lack; rw [h, h3]; simp
theorem cn_t {S : Nat → Bool} {k : Nat} (h : S k = true) : cn S k + 1 = cn S (k + 1) := by rw [cn_succ, if_pos h]
theorem cn_f {S : Nat → Bool} {k : Nat} (h : S k = false) : cn S k + 0 = cn S (k + 1) := by rw [cn_succ, if_neg (by rw [h]; decide)]
section MM1
variable {D : va_G} {K : Nat → ClassId} {H : Heap} {A : Nat → Prop} {R : va_W} {o : Nat → Nat} {va fl an : Nat → Int64} {n : Nat} {th ch : Nat → Bool} {mn po : Nat → Nat}
set_option maxHeartbeats 1000000 in
set_option maxRecDepth 100000 in
theorem cM_isPosition (l : Launch)  (x : Int32) : Met l yX2_isPosition (tC yX2_isPosition cX2_isPosition 1 (some .boolean)) (rmK 0 0 0) (kP D K H [.int x]) (k2_QcV (.int (bI (isP x)))) 0 0 (fun _ => False) := by
  refine Met.ofW (cc := cX2_isPosition) (maxL := 1) (ret := (some .boolean)) (by decide) rfl ?_
  intro p e s m args below meth c s₁ B hml hv
  obtain ⟨rfl, hH, hK, hN, hO⟩ := hv
  have hx := B.exec
  have hb := B.bytes
  have hr := B.returns
  have hts : ∀ w ∈ tT, w.before _ s = true := fun w h => atoms_spec (ws := tC yX2_isPosition cX2_isPosition 1 (some .boolean)) B.pre w (List.mem_cons_of_mem _ h)
  have hown : s.vm.findClass RX2 = some m.cls := findClass_of_methodNamed B.named
  have hlocks := B.notSynchronized
  have C : cx RX2 D K p s m _ c cX2_isPosition := ⟨hx, hb, hown, hts, hK, hN, hO⟩
  have hR : rmOk (headSpec (tC yX2_isPosition cX2_isPosition 1 (some .boolean)) (rmK 0 0 0)).room 0 0 0 := ⟨Nat.le_refl _, Nat.le_refl _, Nat.le_refl _, Nat.le_refl _⟩
  subst hH
  have hl := lv_entry ([.int x]) (n := 1) (Nat.le_of_ble_eq_true rfl)
  rw [lg_entry_eq]
  generalize (lg_sl ([.int x]) ++ List.replicate (1 - (lg_sl ([.int x])).length) Slot.unset).toArray = ls at hl ⊢
  have hl : lv_has ls 1 [(0, .int x)] := hl
  refine lv_iload_n hx hb dX2_isPosition_0 rfl (lv_at hl 0 rfl) ?_
  refine lv_if_lt (tgt := 15) hx hb dX2_isPosition_1 (by decide) (fun c1 => ?_) (fun c1 => ?_)
  · refine lv_iconst (v := nI 0) hx hb dX2_isPosition_15 (by decide) ?_
    exact W.zret (v := nI 0) hx hb hr (by decide) (fun t ht _ => ⟨rt0 (decide_eq_false (fun z => z.1 c1)), ht⟩) (fun q h => by cases h) dX2_isPosition_16
  · refine lv_iload_n hx hb dX2_isPosition_4 rfl (lv_at hl 0 rfl) ?_
    refine lv_sipush (v := nI 300) hx hb dX2_isPosition_5 (by decide) ?_
    refine lv_icmp_ge (tgt := 15) hx hb dX2_isPosition_8 (by decide) (fun c2 => ?_) (fun c2 => ?_)
    · refine lv_iconst (v := nI 0) hx hb dX2_isPosition_15 (by decide) ?_
      exact W.zret (v := nI 0) hx hb hr (by decide) (fun t ht _ => ⟨rt0 (decide_eq_false (fun z => z.2 c2)), ht⟩) (fun q h => by cases h) dX2_isPosition_16
    · refine lv_iconst (v := nI 1) hx hb dX2_isPosition_11 (by decide) ?_
      refine lv_goto (tgt := 16) hx hb dX2_isPosition_12 (by decide) ?_
      exact W.zret (v := nI 1) hx hb hr (by decide) (fun t ht _ => ⟨rt1 (decide_eq_true ⟨c1, c2⟩), ht⟩) (fun q h => by cases h) dX2_isPosition_16
set_option maxHeartbeats 1000000 in
set_option maxRecDepth 100000 in
theorem cM_isValue (l : Launch)  (v : Int64) : Met l yX2_isValue (tC yX2_isValue cX2_isValue 2 (some .boolean)) (rmK 0 0 0) (kP D K H [.long v]) (k2_QcV (.int (bI (isV v)))) 0 0 (fun _ => False) := by
  refine Met.ofW (cc := cX2_isValue) (maxL := 2) (ret := (some .boolean)) (by decide) rfl ?_
  intro p e s m args below meth c s₁ B hml hv
  obtain ⟨rfl, hH, hK, hN, hO⟩ := hv
  have hx := B.exec
  have hb := B.bytes
  have hr := B.returns
  have hts : ∀ w ∈ tT, w.before _ s = true := fun w h => atoms_spec (ws := tC yX2_isValue cX2_isValue 2 (some .boolean)) B.pre w (List.mem_cons_of_mem _ h)
  have hown : s.vm.findClass RX2 = some m.cls := findClass_of_methodNamed B.named
  have hlocks := B.notSynchronized
  have C : cx RX2 D K p s m _ c cX2_isValue := ⟨hx, hb, hown, hts, hK, hN, hO⟩
  have hR : rmOk (headSpec (tC yX2_isValue cX2_isValue 2 (some .boolean)) (rmK 0 0 0)).room 0 0 0 := ⟨Nat.le_refl _, Nat.le_refl _, Nat.le_refl _, Nat.le_refl _⟩
  subst hH
  have hl := lv_entry ([.long v]) (n := 2) (Nat.le_of_ble_eq_true rfl)
  rw [lg_entry_eq]
  generalize (lg_sl ([.long v]) ++ List.replicate (2 - (lg_sl ([.long v])).length) Slot.unset).toArray = ls at hl ⊢
  have hl : lv_has ls 2 [(0, .long v)] := hl
  refine lv_lload_n hx hb dX2_isValue_0 rfl (lv_at hl 0 rfl) ?_
  refine lv_ldc2 (v := (-1000000000000000000)) hx hb hown (hts _ (by decide +kernel : Cond.constantLong RX2 33 (-1000000000000000000) ∈ tT)) dX2_isValue_1 ?_
  refine W.lcmp hx hb dX2_isValue_4 ?_
  refine lv_if_lt (tgt := 20) hx hb dX2_isValue_5 (by decide) (fun c1 => ?_) (fun c1 => ?_)
  · have c1 : v < (-1000000000000000000) := (lg_cmp_lt v (-1000000000000000000)).mp c1
    refine lv_iconst (v := nI 0) hx hb dX2_isValue_20 (by decide) ?_
    exact W.zret (v := nI 0) hx hb hr (by decide) (fun t ht _ => ⟨rt0 (decide_eq_false (fun z => z.1 c1)), ht⟩) (fun q h => by cases h) dX2_isValue_21
  · have c1 : ¬ v < (-1000000000000000000) := fun z9 => c1 ((lg_cmp_lt v (-1000000000000000000)).mpr z9)
    refine lv_lload_n hx hb dX2_isValue_8 rfl (lv_at hl 0 rfl) ?_
    refine lv_ldc2 (v := 1000000000000000000) hx hb hown (hts _ (by decide +kernel : Cond.constantLong RX2 35 1000000000000000000 ∈ tT)) dX2_isValue_9 ?_
    refine W.lcmp hx hb dX2_isValue_12 ?_
    refine lv_if_gt (tgt := 20) hx hb dX2_isValue_13 (by decide) (fun c2 => ?_) (fun c2 => ?_)
    · have c2 : 1000000000000000000 < v := (lg_cmp_gt v 1000000000000000000).mp c2
      refine lv_iconst (v := nI 0) hx hb dX2_isValue_20 (by decide) ?_
      exact W.zret (v := nI 0) hx hb hr (by decide) (fun t ht _ => ⟨rt0 (decide_eq_false (fun z => z.2 c2)), ht⟩) (fun q h => by cases h) dX2_isValue_21
    · have c2 : ¬ 1000000000000000000 < v := fun z9 => c2 ((lg_cmp_gt v 1000000000000000000).mpr z9)
      refine lv_iconst (v := nI 1) hx hb dX2_isValue_16 (by decide) ?_
      refine lv_goto (tgt := 21) hx hb dX2_isValue_17 (by decide) ?_
      exact W.zret (v := nI 1) hx hb hr (by decide) (fun t ht _ => ⟨rt1 (decide_eq_true ⟨c1, c2⟩), ht⟩) (fun q h => by cases h) dX2_isValue_21
set_option maxHeartbeats 1000000 in
set_option maxRecDepth 100000 in
theorem cM_place_no (l : Launch) (hP : va_P D vwCl (mW R o K va fl n th ch mn po an) H) (x : Int32) (v f : Int64) (h : ¬ (isP x = true ∧ isV v = true ∧ isV f = true ∧ f ≤ v)) : Met l yX2_place (tC yX2_place cX2_place 6 (some .boolean)) (rmK 1 0 0) (kP D K H [.ref (o 0), .int x, .long v, .long f]) (k2_QcV (.int (nI 0))) 0 0 (fun _ => False) := by
  refine Met.ofW (cc := cX2_place) (maxL := 6) (ret := (some .boolean)) (by decide) rfl ?_
  intro p e s m args below meth c s₁ B hml hv
  obtain ⟨rfl, hH, hK, hN, hO⟩ := hv
  have hx := B.exec
  have hb := B.bytes
  have hr := B.returns
  have hts : ∀ w ∈ tT, w.before _ s = true := fun w h => atoms_spec (ws := tC yX2_place cX2_place 6 (some .boolean)) B.pre w (List.mem_cons_of_mem _ h)
  have hown : s.vm.findClass RX2 = some m.cls := findClass_of_methodNamed B.named
  have hlocks := B.notSynchronized
  have C : cx RX2 D K p s m _ c cX2_place := ⟨hx, hb, hown, hts, hK, hN, hO⟩
  have hR : rmOk (headSpec (tC yX2_place cX2_place 6 (some .boolean)) (rmK 1 0 0)).room 1 0 0 := ⟨Nat.le_refl _, Nat.le_refl _, Nat.le_refl _, Nat.le_refl _⟩
  subst hH
  have hl := lv_entry ([.ref (o 0), .int x, .long v, .long f]) (n := 6) (Nat.le_of_ble_eq_true rfl)
  rw [lg_entry_eq]
  generalize (lg_sl ([.ref (o 0), .int x, .long v, .long f]) ++ List.replicate (6 - (lg_sl ([.ref (o 0), .int x, .long v, .long f])).length) Slot.unset).toArray = ls at hl ⊢
  have hl : lv_has ls 6 [(0, .ref (o 0)), (1, .int x), (2, .long v), (4, .long f)] := hl
  refine lv_iload_n hx hb dX2_place_0 rfl (lv_at hl 1 rfl) ?_
  refine pv (va_runS (As := [.int x]) (rest := []) ⟨hx, hb, hml, hown, hts⟩ (cM_isPosition l x) (cwS 1 hts gM_37 rfl rfl rfl (by decide +kernel) (rmF hR (by decide) (by decide))) (kP_S C) rfl rfl hl.1 rfl (lv_room (Nat.le_of_ble_eq_true rfl)) dX2_place_1 ⟨hR.2.2.1, hR.2.2.2⟩) ?_
  refine lv_if_eq (tgt := 29) hx hb dX2_place_4 (by decide) (fun c1 => ?_) (fun c1 => ?_)
  · have c1 : (isP x) = false := (bI_z (isP x)).mp c1
    refine lv_iconst (v := nI 0) hx hb dX2_place_29 (by decide) ?_
    exact W.zret (v := nI 0) hx hb hr (by decide) (fun t ht _ => ⟨rfl, ht⟩) (fun q h => by cases h) dX2_place_30
  · have c1 : (isP x) = true := (bI_nz (isP x)).mp c1
    refine lv_lload_n hx hb dX2_place_7 rfl (lv_at hl 2 rfl) ?_
    refine pv (va_runS (As := [.long v]) (rest := []) ⟨hx, hb, hml, hown, hts⟩ (cM_isValue l v) (cwS 1 hts gM_41 rfl rfl rfl (by decide +kernel) (rmF hR (by decide) (by decide))) (kP_S C) rfl rfl hl.1 rfl (lv_room (Nat.le_of_ble_eq_true rfl)) dX2_place_8 ⟨hR.2.2.1, hR.2.2.2⟩) ?_
    refine lv_if_eq (tgt := 29) hx hb dX2_place_11 (by decide) (fun c2 => ?_) (fun c2 => ?_)
    · have c2 : (isV v) = false := (bI_z (isV v)).mp c2
      refine lv_iconst (v := nI 0) hx hb dX2_place_29 (by decide) ?_
      exact W.zret (v := nI 0) hx hb hr (by decide) (fun t ht _ => ⟨rfl, ht⟩) (fun q h => by cases h) dX2_place_30
    · have c2 : (isV v) = true := (bI_nz (isV v)).mp c2
      refine lv_lload hx hb dX2_place_14 (lv_at hl 3 rfl) ?_
      refine pv (va_runS (As := [.long f]) (rest := []) ⟨hx, hb, hml, hown, hts⟩ (cM_isValue l f) (cwS 1 hts gM_41 rfl rfl rfl (by decide +kernel) (rmF hR (by decide) (by decide))) (kP_S C) rfl rfl hl.1 rfl (lv_room (Nat.le_of_ble_eq_true rfl)) dX2_place_16 ⟨hR.2.2.1, hR.2.2.2⟩) ?_
      refine lv_if_eq (tgt := 29) hx hb dX2_place_19 (by decide) (fun c3 => ?_) (fun c3 => ?_)
      · have c3 : (isV f) = false := (bI_z (isV f)).mp c3
        refine lv_iconst (v := nI 0) hx hb dX2_place_29 (by decide) ?_
        exact W.zret (v := nI 0) hx hb hr (by decide) (fun t ht _ => ⟨rfl, ht⟩) (fun q h => by cases h) dX2_place_30
      · have c3 : (isV f) = true := (bI_nz (isV f)).mp c3
        refine lv_lload_n hx hb dX2_place_22 rfl (lv_at hl 2 rfl) ?_
        refine lv_lload hx hb dX2_place_23 (lv_at hl 3 rfl) ?_
        refine W.lcmp hx hb dX2_place_25 ?_
        refine lv_if_ge (tgt := 31) hx hb dX2_place_26 (by decide) (fun c4 => ?_) (fun c4 => ?_)
        · have c4 : f ≤ v := (lg_cmp_ge v f).mp c4
          exact absurd ⟨c1, c2, c3, c4⟩ h
        · have c4 : ¬ f ≤ v := fun z9 => c4 ((lg_cmp_ge v f).mpr z9)
          refine lv_iconst (v := nI 0) hx hb dX2_place_29 (by decide) ?_
          exact W.zret (v := nI 0) hx hb hr (by decide) (fun t ht _ => ⟨rfl, ht⟩) (fun q h => by cases h) dX2_place_30
set_option maxHeartbeats 1000000 in
set_option maxRecDepth 100000 in
theorem cM_place (l : Launch) (hP : va_P D vwCl (mW R o K va fl n th ch mn po an) H) (hD : va_D A (mW R o K va fl n th ch mn po an)) {q : Nat} (hq3 : q < 300) (v f : Int64) (h2 : isV v = true) (h3 : isV f = true) (h4 : f ≤ v) : Met l yX2_place (tC yX2_place cX2_place 6 (some .boolean)) (rmK 1 0 0) (kP D K H [.ref (o 0), .int (nI q), .long v, .long f]) (qI D A (fun (r : Int32) (u : Unit) => r = nI 1) (fun u : Unit => mW R o K (va_up va q v) (va_up fl q f) n th ch mn po an)) 0 0 A := by
  refine Met.ofW (cc := cX2_place) (maxL := 6) (ret := (some .boolean)) (by decide) rfl ?_
  intro p e s m args below meth c s₁ B hml hv
  obtain ⟨rfl, hH, hK, hN, hO⟩ := hv
  have hx := B.exec
  have hb := B.bytes
  have hr := B.returns
  have hts : ∀ w ∈ tT, w.before _ s = true := fun w h => atoms_spec (ws := tC yX2_place cX2_place 6 (some .boolean)) B.pre w (List.mem_cons_of_mem _ h)
  have hown : s.vm.findClass RX2 = some m.cls := findClass_of_methodNamed B.named
  have hlocks := B.notSynchronized
  have C : cx RX2 D K p s m _ c cX2_place := ⟨hx, hb, hown, hts, hK, hN, hO⟩
  have hR : rmOk (headSpec (tC yX2_place cX2_place 6 (some .boolean)) (rmK 1 0 0)).room 1 0 0 := ⟨Nat.le_refl _, Nat.le_refl _, Nat.le_refl _, Nat.le_refl _⟩
  subst hH
  have hS : va_S A s.heap s.heap [] := va_S.rf
  have hl := lv_entry ([.ref (o 0), .int (nI q), .long v, .long f]) (n := 6) (Nat.le_of_ble_eq_true rfl)
  rw [lg_entry_eq]
  generalize (lg_sl ([.ref (o 0), .int (nI q), .long v, .long f]) ++ List.replicate (6 - (lg_sl ([.ref (o 0), .int (nI q), .long v, .long f])).length) Slot.unset).toArray = ls at hl ⊢
  have hl : lv_has ls 6 [(0, .ref (o 0)), (1, .int (nI q)), (2, .long v), (4, .long f)] := hl
  refine lv_iload_n hx hb dX2_place_0 rfl (lv_at hl 1 rfl) ?_
  refine pv (va_runS (As := [.int (nI q)]) (rest := []) ⟨hx, hb, hml, hown, hts⟩ (cM_isPosition l (nI q)) (cwS 1 hts gM_37 rfl rfl rfl (by decide +kernel) (rmF hR (by decide) (by decide))) (kP_S C) rfl rfl hl.1 rfl (lv_room (Nat.le_of_ble_eq_true rfl)) dX2_place_1 ⟨hR.2.2.1, hR.2.2.2⟩) ?_
  refine lv_if_eq (tgt := 29) hx hb dX2_place_4 (by decide) (fun c1 => ?_) (fun c1 => ?_)
  · have c1 : (isP (nI q)) = false := (bI_z (isP (nI q))).mp c1
    exact absurd ((isP_nI hq3).symm.trans c1) (by decide)
  · have c1 : (isP (nI q)) = true := (bI_nz (isP (nI q))).mp c1
    refine lv_lload_n hx hb dX2_place_7 rfl (lv_at hl 2 rfl) ?_
    refine pv (va_runS (As := [.long v]) (rest := []) ⟨hx, hb, hml, hown, hts⟩ (cM_isValue l v) (cwS 1 hts gM_41 rfl rfl rfl (by decide +kernel) (rmF hR (by decide) (by decide))) (kP_S C) rfl rfl hl.1 rfl (lv_room (Nat.le_of_ble_eq_true rfl)) dX2_place_8 ⟨hR.2.2.1, hR.2.2.2⟩) ?_
    refine lv_if_eq (tgt := 29) hx hb dX2_place_11 (by decide) (fun c2 => ?_) (fun c2 => ?_)
    · have c2 : (isV v) = false := (bI_z (isV v)).mp c2
      exact absurd (h2.symm.trans c2) (by decide)
    · have c2 : (isV v) = true := (bI_nz (isV v)).mp c2
      refine lv_lload hx hb dX2_place_14 (lv_at hl 3 rfl) ?_
      refine pv (va_runS (As := [.long f]) (rest := []) ⟨hx, hb, hml, hown, hts⟩ (cM_isValue l f) (cwS 1 hts gM_41 rfl rfl rfl (by decide +kernel) (rmF hR (by decide) (by decide))) (kP_S C) rfl rfl hl.1 rfl (lv_room (Nat.le_of_ble_eq_true rfl)) dX2_place_16 ⟨hR.2.2.1, hR.2.2.2⟩) ?_
      refine lv_if_eq (tgt := 29) hx hb dX2_place_19 (by decide) (fun c3 => ?_) (fun c3 => ?_)
      · have c3 : (isV f) = false := (bI_z (isV f)).mp c3
        exact absurd (h3.symm.trans c3) (by decide)
      · have c3 : (isV f) = true := (bI_nz (isV f)).mp c3
        refine lv_lload_n hx hb dX2_place_22 rfl (lv_at hl 2 rfl) ?_
        refine lv_lload hx hb dX2_place_23 (lv_at hl 3 rfl) ?_
        refine W.lcmp hx hb dX2_place_25 ?_
        refine lv_if_ge (tgt := 31) hx hb dX2_place_26 (by decide) (fun c4 => ?_) (fun c4 => ?_)
        · have c4 : f ≤ v := (lg_cmp_ge v f).mp c4
          refine lv_aload_n hx hb dX2_place_31 rfl (lv_at hl 0 rfl) ?_
          refine gM_values C hP dX2_place_32 ?_
          refine lv_iload_n hx hb dX2_place_35 rfl (lv_at hl 1 rfl) ?_
          refine lv_lload_n hx hb dX2_place_36 rfl (lv_at hl 2 rfl) ?_
          refine sM_values (x := v) C hP hD hS (by omega) dX2_place_37 (fun H locs hP hD hS => ?_)
          refine lv_aload_n hx hb dX2_place_38 rfl (lv_at hl 0 rfl) ?_
          refine gM_floors C hP dX2_place_39 ?_
          refine lv_iload_n hx hb dX2_place_42 rfl (lv_at hl 1 rfl) ?_
          refine lv_lload hx hb dX2_place_43 (lv_at hl 3 rfl) ?_
          refine sM_floors (x := f) C hP hD hS (by omega) dX2_place_45 (fun H locs hP hD hS => ?_)
          refine lv_iconst (v := nI 1) hx hb dX2_place_46 (by decide) ?_
          exact W.zret (v := nI 1) hx hb hr (by decide) (fun t ht _ => ⟨⟨_, (), rfl, rfl, by rw [ht]; exact hP, hD⟩, hS.F ht⟩) hS.2.2 dX2_place_47
        · have c4 : ¬ f ≤ v := fun z9 => c4 ((lg_cmp_ge v f).mpr z9)
          exact absurd h4 c4
set_option maxHeartbeats 1000000 in
set_option maxRecDepth 100000 in
theorem cM_item_no (l : Launch) (hP : va_P D vwCl (mW R o K va fl n th ch mn po an) H) (h : n = 200) : Met l yX2_item (tC yX2_item cX2_item 1 (some .int)) (rmK 0 0 0) (kP D K H [.ref (o 0)]) (k2_QcV (.int (-1))) 0 0 (fun _ => False) := by
  refine Met.ofW (cc := cX2_item) (maxL := 1) (ret := (some .int)) (by decide) rfl ?_
  intro p e s m args below meth c s₁ B hml hv
  obtain ⟨rfl, hH, hK, hN, hO⟩ := hv
  have hx := B.exec
  have hb := B.bytes
  have hr := B.returns
  have hts : ∀ w ∈ tT, w.before _ s = true := fun w h => atoms_spec (ws := tC yX2_item cX2_item 1 (some .int)) B.pre w (List.mem_cons_of_mem _ h)
  have hown : s.vm.findClass RX2 = some m.cls := findClass_of_methodNamed B.named
  have hlocks := B.notSynchronized
  have C : cx RX2 D K p s m _ c cX2_item := ⟨hx, hb, hown, hts, hK, hN, hO⟩
  have hR : rmOk (headSpec (tC yX2_item cX2_item 1 (some .int)) (rmK 0 0 0)).room 0 0 0 := ⟨Nat.le_refl _, Nat.le_refl _, Nat.le_refl _, Nat.le_refl _⟩
  subst hH
  have hl := lv_entry ([.ref (o 0)]) (n := 1) (Nat.le_of_ble_eq_true rfl)
  rw [lg_entry_eq]
  generalize (lg_sl ([.ref (o 0)]) ++ List.replicate (1 - (lg_sl ([.ref (o 0)])).length) Slot.unset).toArray = ls at hl ⊢
  have hl : lv_has ls 1 [(0, .ref (o 0))] := hl
  refine lv_aload_n hx hb dX2_item_0 rfl (lv_at hl 0 rfl) ?_
  refine gM_items C hP dX2_item_1 ?_
  refine lv_sipush (v := nI 200) hx hb dX2_item_4 (by decide) ?_
  refine lv_icmp_ne (tgt := 12) hx hb dX2_item_7 (by decide) (fun c1 => ?_) (fun c1 => ?_)
  · have c1 : ¬ n = 200 := fun z9 => c1 ((nI_eq (by omega) (by omega)).mpr z9)
    exact absurd h c1
  · have c1 : n = 200 := (nI_eq (by omega) (by omega)).mp c1
    refine lv_iconst (v := (-1)) hx hb dX2_item_10 (by decide) ?_
    exact W.iret (v := (-1)) hx hb hr (fun t ht _ => ⟨rfl, ht⟩) (fun q h => by cases h) dX2_item_11
set_option maxHeartbeats 1000000 in
set_option maxRecDepth 100000 in
theorem cM_item (l : Launch) (hP : va_P D vwCl (mW R o K va fl n th ch mn po an) H) (hD : va_D A (mW R o K va fl n th ch mn po an)) (h : n < 200) : Met l yX2_item (tC yX2_item cX2_item 1 (some .int)) (rmK 0 0 0) (kP D K H [.ref (o 0)]) (qI D A (fun (r : Int32) (u : Unit) => r = nI n) (fun u : Unit => mW R o K va fl (n + 1) (va_up th n true) ch mn po an)) 0 0 A := by
  refine Met.ofW (cc := cX2_item) (maxL := 1) (ret := (some .int)) (by decide) rfl ?_
  intro p e s m args below meth c s₁ B hml hv
  obtain ⟨rfl, hH, hK, hN, hO⟩ := hv
  have hx := B.exec
  have hb := B.bytes
  have hr := B.returns
  have hts : ∀ w ∈ tT, w.before _ s = true := fun w h => atoms_spec (ws := tC yX2_item cX2_item 1 (some .int)) B.pre w (List.mem_cons_of_mem _ h)
  have hown : s.vm.findClass RX2 = some m.cls := findClass_of_methodNamed B.named
  have hlocks := B.notSynchronized
  have C : cx RX2 D K p s m _ c cX2_item := ⟨hx, hb, hown, hts, hK, hN, hO⟩
  have hR : rmOk (headSpec (tC yX2_item cX2_item 1 (some .int)) (rmK 0 0 0)).room 0 0 0 := ⟨Nat.le_refl _, Nat.le_refl _, Nat.le_refl _, Nat.le_refl _⟩
  subst hH
  have hS : va_S A s.heap s.heap [] := va_S.rf
  have hl := lv_entry ([.ref (o 0)]) (n := 1) (Nat.le_of_ble_eq_true rfl)
  rw [lg_entry_eq]
  generalize (lg_sl ([.ref (o 0)]) ++ List.replicate (1 - (lg_sl ([.ref (o 0)])).length) Slot.unset).toArray = ls at hl ⊢
  have hl : lv_has ls 1 [(0, .ref (o 0))] := hl
  refine lv_aload_n hx hb dX2_item_0 rfl (lv_at hl 0 rfl) ?_
  refine gM_items C hP dX2_item_1 ?_
  refine lv_sipush (v := nI 200) hx hb dX2_item_4 (by decide) ?_
  refine lv_icmp_ne (tgt := 12) hx hb dX2_item_7 (by decide) (fun c1 => ?_) (fun c1 => ?_)
  · have c1 : ¬ n = 200 := fun z9 => c1 ((nI_eq (by omega) (by omega)).mpr z9)
    refine lv_aload_n hx hb dX2_item_12 rfl (lv_at hl 0 rfl) ?_
    refine gM_there C hP dX2_item_13 ?_
    refine lv_aload_n hx hb dX2_item_16 rfl (lv_at hl 0 rfl) ?_
    refine gM_items C hP dX2_item_17 ?_
    refine lv_iconst (v := nI 1) hx hb dX2_item_20 (by decide) ?_
    refine tp_i (y := bI true) (b1 rfl) ?_
    refine sM_there (x := true) C hP hD hS (by omega) dX2_item_21 (fun H locs hP hD hS => ?_)
    refine lv_aload_n hx hb dX2_item_22 rfl (lv_at hl 0 rfl) ?_
    refine lv_aload_n hx hb dX2_item_23 rfl (lv_at hl 0 rfl) ?_
    refine gM_items C hP dX2_item_24 ?_
    refine lv_iconst (v := nI 1) hx hb dX2_item_27 (by decide) ?_
    refine lv_iadd hx hb dX2_item_28 ?_
    refine tp_i (y := nI (n + 1)) (nI_add n 1) ?_
    refine pM_items C hP hD hS dX2_item_29 (fun H locs hP hD hS => ?_)
    refine lv_aload_n hx hb dX2_item_32 rfl (lv_at hl 0 rfl) ?_
    refine gM_items C hP dX2_item_33 ?_
    refine lv_iconst (v := nI 1) hx hb dX2_item_36 (by decide) ?_
    refine lv_isub hx hb dX2_item_37 ?_
    refine tp_i (y := nI ((n + 1) - 1)) (pk_sub (by omega)) ?_
    refine tp_i (y := nI n) (congrArg nI (Nat.add_sub_cancel n 1)) ?_
    exact W.iret (v := nI n) hx hb hr (fun t ht _ => ⟨⟨_, (), rfl, rfl, by rw [ht]; exact hP, hD⟩, hS.F ht⟩) hS.2.2 dX2_item_38
  · have c1 : n = 200 := (nI_eq (by omega) (by omega)).mp c1
    exact absurd c1 (by omega)
set_option maxHeartbeats 1000000 in
set_option maxRecDepth 100000 in
theorem cM_isThere (l : Launch) (hP : va_P D vwCl (mW R o K va fl n th ch mn po an) H) (hn200 : n ≤ 200) {i : Nat} (hi : i < n) (hT : th i = true) : Met l yX2_isThere (tC yX2_isThere cX2_isThere 2 (some .boolean)) (rmK 0 0 0) (kP D K H [.ref (o 0), .int (nI i)]) (k2_QcV (.int (nI 1))) 0 0 (fun _ => False) := by
  refine Met.ofW (cc := cX2_isThere) (maxL := 2) (ret := (some .boolean)) (by decide) rfl ?_
  intro p e s m args below meth c s₁ B hml hv
  obtain ⟨rfl, hH, hK, hN, hO⟩ := hv
  have hx := B.exec
  have hb := B.bytes
  have hr := B.returns
  have hts : ∀ w ∈ tT, w.before _ s = true := fun w h => atoms_spec (ws := tC yX2_isThere cX2_isThere 2 (some .boolean)) B.pre w (List.mem_cons_of_mem _ h)
  have hown : s.vm.findClass RX2 = some m.cls := findClass_of_methodNamed B.named
  have hlocks := B.notSynchronized
  have C : cx RX2 D K p s m _ c cX2_isThere := ⟨hx, hb, hown, hts, hK, hN, hO⟩
  have hR : rmOk (headSpec (tC yX2_isThere cX2_isThere 2 (some .boolean)) (rmK 0 0 0)).room 0 0 0 := ⟨Nat.le_refl _, Nat.le_refl _, Nat.le_refl _, Nat.le_refl _⟩
  subst hH
  have hl := lv_entry ([.ref (o 0), .int (nI i)]) (n := 2) (Nat.le_of_ble_eq_true rfl)
  rw [lg_entry_eq]
  generalize (lg_sl ([.ref (o 0), .int (nI i)]) ++ List.replicate (2 - (lg_sl ([.ref (o 0), .int (nI i)])).length) Slot.unset).toArray = ls at hl ⊢
  have hl : lv_has ls 2 [(0, .ref (o 0)), (1, .int (nI i))] := hl
  refine lv_iload_n hx hb dX2_isThere_0 rfl (lv_at hl 1 rfl) ?_
  refine lv_if_lt (tgt := 25) hx hb dX2_isThere_1 (by decide) (fun c1 => ?_) (fun c1 => ?_)
  · exact absurd c1 (nI_pos (by omega))
  · refine lv_iload_n hx hb dX2_isThere_4 rfl (lv_at hl 1 rfl) ?_
    refine lv_aload_n hx hb dX2_isThere_5 rfl (lv_at hl 0 rfl) ?_
    refine gM_items C hP dX2_isThere_6 ?_
    refine lv_icmp_ge (tgt := 25) hx hb dX2_isThere_9 (by decide) (fun c2 => ?_) (fun c2 => ?_)
    · have c2 : n ≤ i := (nI_leI (by omega) (by omega)).mp c2
      exact absurd hi (by omega)
    · have c2 : ¬ n ≤ i := fun z9 => c2 ((nI_leI (by omega) (by omega)).mpr z9)
      refine lv_aload_n hx hb dX2_isThere_12 rfl (lv_at hl 0 rfl) ?_
      refine gM_there C hP dX2_isThere_13 ?_
      refine lv_iload_n hx hb dX2_isThere_16 rfl (lv_at hl 1 rfl) ?_
      refine lM_there C hP (by omega) dX2_isThere_17 ?_
      refine lv_if_eq (tgt := 25) hx hb dX2_isThere_18 (by decide) (fun c3 => ?_) (fun c3 => ?_)
      · have c3 : (th i) = false := (bI_z (th i)).mp c3
        exact absurd (hT.symm.trans c3) (by decide)
      · have c3 : (th i) = true := (bI_nz (th i)).mp c3
        refine lv_iconst (v := nI 1) hx hb dX2_isThere_21 (by decide) ?_
        refine lv_goto (tgt := 26) hx hb dX2_isThere_22 (by decide) ?_
        exact W.zret (v := nI 1) hx hb hr (by decide) (fun t ht _ => ⟨rfl, ht⟩) (fun q h => by cases h) dX2_isThere_26
set_option maxHeartbeats 1000000 in
set_option maxRecDepth 100000 in
theorem cM_isThere_no (l : Launch) (hP : va_P D vwCl (mW R o K va fl n th ch mn po an) H) (hn200 : n ≤ 200) (x : Int32) (h : nT n th x) : Met l yX2_isThere (tC yX2_isThere cX2_isThere 2 (some .boolean)) (rmK 0 0 0) (kP D K H [.ref (o 0), .int x]) (k2_QcV (.int (nI 0))) 0 0 (fun _ => False) := by
  refine Met.ofW (cc := cX2_isThere) (maxL := 2) (ret := (some .boolean)) (by decide) rfl ?_
  intro p e s m args below meth c s₁ B hml hv
  obtain ⟨rfl, hH, hK, hN, hO⟩ := hv
  have hx := B.exec
  have hb := B.bytes
  have hr := B.returns
  have hts : ∀ w ∈ tT, w.before _ s = true := fun w h => atoms_spec (ws := tC yX2_isThere cX2_isThere 2 (some .boolean)) B.pre w (List.mem_cons_of_mem _ h)
  have hown : s.vm.findClass RX2 = some m.cls := findClass_of_methodNamed B.named
  have hlocks := B.notSynchronized
  have C : cx RX2 D K p s m _ c cX2_isThere := ⟨hx, hb, hown, hts, hK, hN, hO⟩
  have hR : rmOk (headSpec (tC yX2_isThere cX2_isThere 2 (some .boolean)) (rmK 0 0 0)).room 0 0 0 := ⟨Nat.le_refl _, Nat.le_refl _, Nat.le_refl _, Nat.le_refl _⟩
  subst hH
  have hl := lv_entry ([.ref (o 0), .int x]) (n := 2) (Nat.le_of_ble_eq_true rfl)
  rw [lg_entry_eq]
  generalize (lg_sl ([.ref (o 0), .int x]) ++ List.replicate (2 - (lg_sl ([.ref (o 0), .int x])).length) Slot.unset).toArray = ls at hl ⊢
  have hl : lv_has ls 2 [(0, .ref (o 0)), (1, .int x)] := hl
  rcases h with h | h | ⟨i, hi, rfl, hT⟩
  · refine lv_iload_n hx hb dX2_isThere_0 rfl (lv_at hl 1 rfl) ?_
    refine lv_if_lt (tgt := 25) hx hb dX2_isThere_1 (by decide) (fun c1 => ?_) (fun c1 => ?_)
    · refine lv_iconst (v := nI 0) hx hb dX2_isThere_25 (by decide) ?_
      exact W.zret (v := nI 0) hx hb hr (by decide) (fun t ht _ => ⟨rfl, ht⟩) (fun q h => by cases h) dX2_isThere_26
    · exact absurd h c1
  · refine lv_iload_n hx hb dX2_isThere_0 rfl (lv_at hl 1 rfl) ?_
    refine lv_if_lt (tgt := 25) hx hb dX2_isThere_1 (by decide) (fun c1 => ?_) (fun c1 => ?_)
    · refine lv_iconst (v := nI 0) hx hb dX2_isThere_25 (by decide) ?_
      exact W.zret (v := nI 0) hx hb hr (by decide) (fun t ht _ => ⟨rfl, ht⟩) (fun q h => by cases h) dX2_isThere_26
    · refine lv_iload_n hx hb dX2_isThere_4 rfl (lv_at hl 1 rfl) ?_
      refine lv_aload_n hx hb dX2_isThere_5 rfl (lv_at hl 0 rfl) ?_
      refine gM_items C hP dX2_isThere_6 ?_
      refine lv_icmp_ge (tgt := 25) hx hb dX2_isThere_9 (by decide) (fun c2 => ?_) (fun c2 => ?_)
      · refine lv_iconst (v := nI 0) hx hb dX2_isThere_25 (by decide) ?_
        exact W.zret (v := nI 0) hx hb hr (by decide) (fun t ht _ => ⟨rfl, ht⟩) (fun q h => by cases h) dX2_isThere_26
      · exact absurd h c2
  · refine lv_iload_n hx hb dX2_isThere_0 rfl (lv_at hl 1 rfl) ?_
    refine lv_if_lt (tgt := 25) hx hb dX2_isThere_1 (by decide) (fun c1 => ?_) (fun c1 => ?_)
    · exact absurd c1 (nI_pos (by omega))
    · refine lv_iload_n hx hb dX2_isThere_4 rfl (lv_at hl 1 rfl) ?_
      refine lv_aload_n hx hb dX2_isThere_5 rfl (lv_at hl 0 rfl) ?_
      refine gM_items C hP dX2_isThere_6 ?_
      refine lv_icmp_ge (tgt := 25) hx hb dX2_isThere_9 (by decide) (fun c2 => ?_) (fun c2 => ?_)
      · have c2 : n ≤ i := (nI_leI (by omega) (by omega)).mp c2
        exact absurd hi (by omega)
      · have c2 : ¬ n ≤ i := fun z9 => c2 ((nI_leI (by omega) (by omega)).mpr z9)
        refine lv_aload_n hx hb dX2_isThere_12 rfl (lv_at hl 0 rfl) ?_
        refine gM_there C hP dX2_isThere_13 ?_
        refine lv_iload_n hx hb dX2_isThere_16 rfl (lv_at hl 1 rfl) ?_
        refine lM_there C hP (by omega) dX2_isThere_17 ?_
        refine lv_if_eq (tgt := 25) hx hb dX2_isThere_18 (by decide) (fun c3 => ?_) (fun c3 => ?_)
        · have c3 : (th i) = false := (bI_z (th i)).mp c3
          refine lv_iconst (v := nI 0) hx hb dX2_isThere_25 (by decide) ?_
          exact W.zret (v := nI 0) hx hb hr (by decide) (fun t ht _ => ⟨rfl, ht⟩) (fun q h => by cases h) dX2_isThere_26
        · have c3 : (th i) = true := (bI_nz (th i)).mp c3
          exact absurd (c3.symm.trans hT) (by decide)
set_option maxHeartbeats 1000000 in
set_option maxRecDepth 100000 in
theorem cM_find (l : Launch) (hP : va_P D vwCl (mW R o K va fl n th ch mn po an) H) {i g : Nat} (hi : i < 200) (hmi : mn i ≤ 16) (hpo : ∀ k, k < mn i → psM po i k < 300) (hp : g < 300) : Met l yX2_find (tC yX2_find cX2_find 4 (some .int)) (rmK 0 0 0) (kP D K H [.ref (o 0), .int (nI i), .int (nI g)]) (k2_QcV (.int (nI (mfd mn po i g)))) 0 0 (fun _ => False) := by
  refine Met.ofW (cc := cX2_find) (maxL := 4) (ret := (some .int)) (by decide) rfl ?_
  intro p e s m args below meth c s₁ B hml hv
  obtain ⟨rfl, hH, hK, hN, hO⟩ := hv
  have hx := B.exec
  have hb := B.bytes
  have hr := B.returns
  have hts : ∀ w ∈ tT, w.before _ s = true := fun w h => atoms_spec (ws := tC yX2_find cX2_find 4 (some .int)) B.pre w (List.mem_cons_of_mem _ h)
  have hown : s.vm.findClass RX2 = some m.cls := findClass_of_methodNamed B.named
  have hlocks := B.notSynchronized
  have C : cx RX2 D K p s m _ c cX2_find := ⟨hx, hb, hown, hts, hK, hN, hO⟩
  have hR : rmOk (headSpec (tC yX2_find cX2_find 4 (some .int)) (rmK 0 0 0)).room 0 0 0 := ⟨Nat.le_refl _, Nat.le_refl _, Nat.le_refl _, Nat.le_refl _⟩
  subst hH
  have hl := lv_entry ([.ref (o 0), .int (nI i), .int (nI g)]) (n := 4) (Nat.le_of_ble_eq_true rfl)
  rw [lg_entry_eq]
  generalize (lg_sl ([.ref (o 0), .int (nI i), .int (nI g)]) ++ List.replicate (4 - (lg_sl ([.ref (o 0), .int (nI i), .int (nI g)])).length) Slot.unset).toArray = ls at hl ⊢
  have hl : lv_has ls 4 [(0, .ref (o 0)), (1, .int (nI i)), (2, .int (nI g))] := hl
  refine lv_bipush (v := nI 16) hx hb dX2_find_0 (by decide) ?_
  refine lv_iload_n hx hb dX2_find_2 rfl (lv_at hl 1 rfl) ?_
  refine lv_imul hx hb dX2_find_3 ?_
  refine tp_i (y := nI (16 * i)) (pk_mul 16 i) ?_
  refine lv_istore_n (lv' := [(3, .int (nI (16 * i))), (0, .ref (o 0)), (1, .int (nI i)), (2, .int (nI g))]) hx hb dX2_find_4 rfl hl (by decide) rfl (fun ls hl => ?_)
  refine lpW (U := 16 * i + mn i) (pcH := 5) (I := fun k ls => lv_has ls 4 [(3, .int (nI k)), (0, .ref (o 0)), (1, .int (nI i)), (2, .int (nI g))] ∧ 16 * i ≤ k ∧ ∀ j, 16 * i ≤ j → j < k → ¬ po j = g) (fun k ls hkk hI ihk => ?_) (16 * i) ls (Nat.le_add_right _ _) ⟨(lv_sub hl [0, 1, 2, 3] rfl), Nat.le_refl _, fun j h1 h2 => absurd h2 (by omega)⟩
  obtain ⟨hl, hk0, hm⟩ := hI
  refine lv_iload_n hx hb dX2_find_5 rfl (lv_at hl 0 rfl) ?_
  refine lv_bipush (v := nI 16) hx hb dX2_find_6 (by decide) ?_
  refine lv_iload_n hx hb dX2_find_8 rfl (lv_at hl 2 rfl) ?_
  refine lv_imul hx hb dX2_find_9 ?_
  refine tp_i (y := nI (16 * i)) (pk_mul 16 i) ?_
  refine lv_aload_n hx hb dX2_find_10 rfl (lv_at hl 1 rfl) ?_
  refine gM_many C hP dX2_find_11 ?_
  refine lv_iload_n hx hb dX2_find_14 rfl (lv_at hl 2 rfl) ?_
  refine lM_many C hP (by omega) dX2_find_15 ?_
  refine lv_iadd hx hb dX2_find_16 ?_
  refine tp_i (y := nI ((16 * i) + (mn i))) (nI_add (16 * i) (mn i)) ?_
  refine lv_icmp_ge (tgt := 37) hx hb dX2_find_17 (by decide) (fun c1 => ?_) (fun c1 => ?_)
  · have c1 : ((16 * i) + (mn i)) ≤ k := (nI_leI (by omega) (by omega)).mp c1
    refine lv_iload_n hx hb dX2_find_37 rfl (lv_at hl 0 rfl) ?_
    exact W.iret (v := nI k) hx hb hr (fun t ht _ => ⟨rti (congrArg nI ((show k = 16 * i + mn i by omega).trans (fs_no2 (q := mq po g) (fun j h1 h2 => decide_eq_false (hm j h1 (by omega)))).symm)), ht⟩) (fun q h => by cases h) dX2_find_38
  · have c1 : ¬ ((16 * i) + (mn i)) ≤ k := fun z9 => c1 ((nI_leI (by omega) (by omega)).mpr z9)
    have hpk : po k < 300 := by
      have g0 := hpo (k - 16 * i) (by omega)
      rw [show psM po i (k - 16 * i) = po k from congrArg po (by omega)] at g0
      exact g0
    refine lv_aload_n hx hb dX2_find_20 rfl (lv_at hl 1 rfl) ?_
    refine gM_positions C hP dX2_find_21 ?_
    refine lv_iload_n hx hb dX2_find_24 rfl (lv_at hl 0 rfl) ?_
    refine lM_positions C hP (by omega) dX2_find_25 ?_
    refine lv_iload_n hx hb dX2_find_26 rfl (lv_at hl 3 rfl) ?_
    refine lv_icmp_eq (tgt := 37) hx hb dX2_find_27 (by decide) (fun c2 => ?_) (fun c2 => ?_)
    · have c2 : (po k) = g := (nI_eq (by omega) (by omega)).mp c2
      refine lv_iload_n hx hb dX2_find_37 rfl (lv_at hl 0 rfl) ?_
      exact W.iret (v := nI k) hx hb hr (fun t ht _ => ⟨rti (congrArg nI (fs_eq2 (q := mq po g) hk0 (by omega) (decide_eq_true c2) (fun j h1 h2 => decide_eq_false (hm j h1 h2))).symm), ht⟩) (fun q h => by cases h) dX2_find_38
    · have c2 : ¬ (po k) = g := fun z9 => c2 ((nI_eq (by omega) (by omega)).mpr z9)
      refine lv_iload_n hx hb dX2_find_30 rfl (lv_at hl 0 rfl) ?_
      refine lv_iconst (v := nI 1) hx hb dX2_find_31 (by decide) ?_
      refine lv_iadd hx hb dX2_find_32 ?_
      refine tp_i (y := nI (k + 1)) (nI_add k 1) ?_
      refine lv_istore_n (lv' := [(3, .int (nI (k + 1))), (0, .ref (o 0)), (1, .int (nI i)), (2, .int (nI g))]) hx hb dX2_find_33 rfl hl (by decide) rfl (fun ls hl => ?_)
      refine lv_goto (tgt := 5) hx hb dX2_find_34 (by decide) ?_
      exact ihk (by omega) ls ⟨(lv_sub hl [0, 1, 2, 3] rfl), by omega, fun j h1 h2 => by
        by_cases ej : j = k
        · rw [ej]; exact c2
        · exact hm j h1 (by omega)⟩
set_option maxHeartbeats 1000000 in
set_option maxRecDepth 100000 in
theorem cM_netAt (l : Launch) (hP : va_P D vwCl (mW R o K va fl n th ch mn po an) H) {i g : Nat} (hi : i < 200) (hmi : mn i ≤ 16) (hpo : ∀ k, k < mn i → psM po i k < 300) (hp : g < 300) : Met l yX2_netAt (tC yX2_netAt cX2_netAt 4 (some .long)) (rmK 1 0 0) (kP D K H [.ref (o 0), .int (nI i), .int (nI g)]) (k2_QcV (.long (netA mn po an i g))) 0 0 (fun _ => False) := by
  refine Met.ofW (cc := cX2_netAt) (maxL := 4) (ret := (some .long)) (by decide) rfl ?_
  intro p e s m args below meth c s₁ B hml hv
  obtain ⟨rfl, hH, hK, hN, hO⟩ := hv
  have hx := B.exec
  have hb := B.bytes
  have hr := B.returns
  have hts : ∀ w ∈ tT, w.before _ s = true := fun w h => atoms_spec (ws := tC yX2_netAt cX2_netAt 4 (some .long)) B.pre w (List.mem_cons_of_mem _ h)
  have hown : s.vm.findClass RX2 = some m.cls := findClass_of_methodNamed B.named
  have hlocks := B.notSynchronized
  have C : cx RX2 D K p s m _ c cX2_netAt := ⟨hx, hb, hown, hts, hK, hN, hO⟩
  have hR : rmOk (headSpec (tC yX2_netAt cX2_netAt 4 (some .long)) (rmK 1 0 0)).room 1 0 0 := ⟨Nat.le_refl _, Nat.le_refl _, Nat.le_refl _, Nat.le_refl _⟩
  subst hH
  have hl := lv_entry ([.ref (o 0), .int (nI i), .int (nI g)]) (n := 4) (Nat.le_of_ble_eq_true rfl)
  rw [lg_entry_eq]
  generalize (lg_sl ([.ref (o 0), .int (nI i), .int (nI g)]) ++ List.replicate (4 - (lg_sl ([.ref (o 0), .int (nI i), .int (nI g)])).length) Slot.unset).toArray = ls at hl ⊢
  have hl : lv_has ls 4 [(0, .ref (o 0)), (1, .int (nI i)), (2, .int (nI g))] := hl
  have hle : mfd mn po i g ≤ 16 * i + mn i := fs_le _ _ _
  refine lv_aload_n hx hb dX2_netAt_0 rfl (lv_at hl 0 rfl) ?_
  refine lv_iload_n hx hb dX2_netAt_1 rfl (lv_at hl 1 rfl) ?_
  refine lv_iload_n hx hb dX2_netAt_2 rfl (lv_at hl 2 rfl) ?_
  refine pv (va_runV (As := [.int (nI i), .int (nI g)]) (rest := []) ⟨hx, hb, hml, hown, hts⟩ (cM_find l hP hi hmi hpo hp) (cwV 2 hts gM_49 rfl rfl rfl (by decide +kernel) (rmF hR (by decide) (by decide))) (kP_V C (va_recv C.2.2.2.2.1 hP (ci := ciM) (q0 := 0) rfl rfl)) rfl rfl hl.1 rfl (lv_room (Nat.le_of_ble_eq_true rfl)) dX2_netAt_3 ⟨hR.2.2.1, hR.2.2.2⟩) ?_
  refine lv_istore_n (lv' := [(3, .int (nI (mfd mn po i g))), (0, .ref (o 0)), (1, .int (nI i)), (2, .int (nI g))]) hx hb dX2_netAt_6 rfl hl (by decide) rfl (fun ls hl => ?_)
  refine lv_iload_n hx hb dX2_netAt_7 rfl (lv_at hl 0 rfl) ?_
  refine lv_bipush (v := nI 16) hx hb dX2_netAt_8 (by decide) ?_
  refine lv_iload_n hx hb dX2_netAt_10 rfl (lv_at hl 2 rfl) ?_
  refine lv_imul hx hb dX2_netAt_11 ?_
  refine tp_i (y := nI (16 * i)) (pk_mul 16 i) ?_
  refine lv_aload_n hx hb dX2_netAt_12 rfl (lv_at hl 1 rfl) ?_
  refine gM_many C hP dX2_netAt_13 ?_
  refine lv_iload_n hx hb dX2_netAt_16 rfl (lv_at hl 2 rfl) ?_
  refine lM_many C hP (by omega) dX2_netAt_17 ?_
  refine lv_iadd hx hb dX2_netAt_18 ?_
  refine tp_i (y := nI ((16 * i) + (mn i))) (nI_add (16 * i) (mn i)) ?_
  refine lv_icmp_ge (tgt := 31) hx hb dX2_netAt_19 (by decide) (fun c1 => ?_) (fun c1 => ?_)
  · have c1 : ((16 * i) + (mn i)) ≤ (mfd mn po i g) := (nI_leI (by omega) (by omega)).mp c1
    refine lv_lconst (v := 0) hx hb dX2_netAt_31 (by decide) ?_
    exact W.lret (v := 0) hx hb hr (fun t ht _ => ⟨rtl (if_neg (by omega)).symm, ht⟩) (fun q h => by cases h) dX2_netAt_32
  · have c1 : ¬ ((16 * i) + (mn i)) ≤ (mfd mn po i g) := fun z9 => c1 ((nI_leI (by omega) (by omega)).mpr z9)
    refine lv_aload_n hx hb dX2_netAt_22 rfl (lv_at hl 1 rfl) ?_
    refine gM_amounts C hP dX2_netAt_23 ?_
    refine lv_iload_n hx hb dX2_netAt_26 rfl (lv_at hl 0 rfl) ?_
    refine lM_amounts C hP (by omega) dX2_netAt_27 ?_
    refine lv_goto (tgt := 32) hx hb dX2_netAt_28 (by decide) ?_
    exact W.lret (v := an (mfd mn po i g)) hx hb hr (fun t ht _ => ⟨rtl (if_pos (by omega)).symm, ht⟩) (fun q h => by cases h) dX2_netAt_32
set_option maxHeartbeats 1000000 in
set_option maxRecDepth 100000 in
theorem cM_go_no (l : Launch) (hP : va_P D vwCl (mW R o K va fl n th ch mn po an) H) (hn200 : n ≤ 200) (x : Int32) (h : nT n th x) : Met l yX2_go (tC yX2_go cX2_go 2 (some .boolean)) (rmK 1 0 0) (kP D K H [.ref (o 0), .int x]) (k2_QcV (.int (nI 0))) 0 0 (fun _ => False) := by
  refine Met.ofW (cc := cX2_go) (maxL := 2) (ret := (some .boolean)) (by decide) rfl ?_
  intro p e s m args below meth c s₁ B hml hv
  obtain ⟨rfl, hH, hK, hN, hO⟩ := hv
  have hx := B.exec
  have hb := B.bytes
  have hr := B.returns
  have hts : ∀ w ∈ tT, w.before _ s = true := fun w h => atoms_spec (ws := tC yX2_go cX2_go 2 (some .boolean)) B.pre w (List.mem_cons_of_mem _ h)
  have hown : s.vm.findClass RX2 = some m.cls := findClass_of_methodNamed B.named
  have hlocks := B.notSynchronized
  have C : cx RX2 D K p s m _ c cX2_go := ⟨hx, hb, hown, hts, hK, hN, hO⟩
  have hR : rmOk (headSpec (tC yX2_go cX2_go 2 (some .boolean)) (rmK 1 0 0)).room 1 0 0 := ⟨Nat.le_refl _, Nat.le_refl _, Nat.le_refl _, Nat.le_refl _⟩
  subst hH
  have hl := lv_entry ([.ref (o 0), .int x]) (n := 2) (Nat.le_of_ble_eq_true rfl)
  rw [lg_entry_eq]
  generalize (lg_sl ([.ref (o 0), .int x]) ++ List.replicate (2 - (lg_sl ([.ref (o 0), .int x])).length) Slot.unset).toArray = ls at hl ⊢
  have hl : lv_has ls 2 [(0, .ref (o 0)), (1, .int x)] := hl
  refine lv_aload_n hx hb dX2_go_0 rfl (lv_at hl 0 rfl) ?_
  refine lv_iload_n hx hb dX2_go_1 rfl (lv_at hl 1 rfl) ?_
  refine pv (va_runV (As := [.int x]) (rest := []) ⟨hx, hb, hml, hown, hts⟩ (cM_isThere_no l hP hn200 x h) (cwV 1 hts gM_53 rfl rfl rfl (by decide +kernel) (rmF hR (by decide) (by decide))) (kP_V C (va_recv C.2.2.2.2.1 hP (ci := ciM) (q0 := 0) rfl rfl)) rfl rfl hl.1 rfl (lv_room (Nat.le_of_ble_eq_true rfl)) dX2_go_2 ⟨hR.2.2.1, hR.2.2.2⟩) ?_
  refine lv_if_ne (tgt := 10) hx hb dX2_go_5 (by decide) (fun c1 => ?_) (fun c1 => ?_)
  · exact absurd (by decide) c1
  · refine lv_iconst (v := nI 0) hx hb dX2_go_8 (by decide) ?_
    exact W.zret (v := nI 0) hx hb hr (by decide) (fun t ht _ => ⟨rfl, ht⟩) (fun q h => by cases h) dX2_go_9
set_option maxHeartbeats 1000000 in
set_option maxRecDepth 100000 in
theorem cM_go (l : Launch) (hP : va_P D vwCl (mW R o K va fl n th ch mn po an) H) (hD : va_D A (mW R o K va fl n th ch mn po an)) (hn200 : n ≤ 200) {i : Nat} (hi : i < n) (hT : th i = true) : Met l yX2_go (tC yX2_go cX2_go 2 (some .boolean)) (rmK 1 0 0) (kP D K H [.ref (o 0), .int (nI i)]) (qI D A (fun (r : Int32) (u : Unit) => r = nI 1) (fun u : Unit => mW R o K va fl n (va_up th i false) ch mn po an)) 0 0 A := by
  refine Met.ofW (cc := cX2_go) (maxL := 2) (ret := (some .boolean)) (by decide) rfl ?_
  intro p e s m args below meth c s₁ B hml hv
  obtain ⟨rfl, hH, hK, hN, hO⟩ := hv
  have hx := B.exec
  have hb := B.bytes
  have hr := B.returns
  have hts : ∀ w ∈ tT, w.before _ s = true := fun w h => atoms_spec (ws := tC yX2_go cX2_go 2 (some .boolean)) B.pre w (List.mem_cons_of_mem _ h)
  have hown : s.vm.findClass RX2 = some m.cls := findClass_of_methodNamed B.named
  have hlocks := B.notSynchronized
  have C : cx RX2 D K p s m _ c cX2_go := ⟨hx, hb, hown, hts, hK, hN, hO⟩
  have hR : rmOk (headSpec (tC yX2_go cX2_go 2 (some .boolean)) (rmK 1 0 0)).room 1 0 0 := ⟨Nat.le_refl _, Nat.le_refl _, Nat.le_refl _, Nat.le_refl _⟩
  subst hH
  have hS : va_S A s.heap s.heap [] := va_S.rf
  have hl := lv_entry ([.ref (o 0), .int (nI i)]) (n := 2) (Nat.le_of_ble_eq_true rfl)
  rw [lg_entry_eq]
  generalize (lg_sl ([.ref (o 0), .int (nI i)]) ++ List.replicate (2 - (lg_sl ([.ref (o 0), .int (nI i)])).length) Slot.unset).toArray = ls at hl ⊢
  have hl : lv_has ls 2 [(0, .ref (o 0)), (1, .int (nI i))] := hl
  refine lv_aload_n hx hb dX2_go_0 rfl (lv_at hl 0 rfl) ?_
  refine lv_iload_n hx hb dX2_go_1 rfl (lv_at hl 1 rfl) ?_
  refine pv (va_runV (As := [.int (nI i)]) (rest := []) ⟨hx, hb, hml, hown, hts⟩ (cM_isThere l hP hn200 hi hT) (cwV 1 hts gM_53 rfl rfl rfl (by decide +kernel) (rmF hR (by decide) (by decide))) (kP_V C (va_recv C.2.2.2.2.1 hP (ci := ciM) (q0 := 0) rfl rfl)) rfl rfl hl.1 rfl (lv_room (Nat.le_of_ble_eq_true rfl)) dX2_go_2 ⟨hR.2.2.1, hR.2.2.2⟩) ?_
  refine lv_if_ne (tgt := 10) hx hb dX2_go_5 (by decide) (fun c1 => ?_) (fun c1 => ?_)
  · refine lv_aload_n hx hb dX2_go_10 rfl (lv_at hl 0 rfl) ?_
    refine gM_there C hP dX2_go_11 ?_
    refine lv_iload_n hx hb dX2_go_14 rfl (lv_at hl 1 rfl) ?_
    refine lv_iconst (v := nI 0) hx hb dX2_go_15 (by decide) ?_
    refine tp_i (y := bI false) (b0 rfl) ?_
    refine sM_there (x := false) C hP hD hS (by omega) dX2_go_16 (fun H locs hP hD hS => ?_)
    refine lv_iconst (v := nI 1) hx hb dX2_go_17 (by decide) ?_
    exact W.zret (v := nI 1) hx hb hr (by decide) (fun t ht _ => ⟨⟨_, (), rfl, rfl, by rw [ht]; exact hP, hD⟩, hS.F ht⟩) hS.2.2 dX2_go_18
  · exact absurd c1 (by decide)
set_option maxHeartbeats 1000000 in
set_option maxRecDepth 100000 in
theorem cM_in_no (l : Launch) (hP : va_P D vwCl (mW R o K va fl n th ch mn po an) H) (x : Int32) (h : x < 0 ∨ nI 200 ≤ x) : Met l yX2_in (tC yX2_in cX2_in 2 (some .boolean)) (rmK 0 0 0) (kP D K H [.ref (o 0), .int x]) (k2_QcV (.int (nI 0))) 0 0 (fun _ => False) := by
  refine Met.ofW (cc := cX2_in) (maxL := 2) (ret := (some .boolean)) (by decide) rfl ?_
  intro p e s m args below meth c s₁ B hml hv
  obtain ⟨rfl, hH, hK, hN, hO⟩ := hv
  have hx := B.exec
  have hb := B.bytes
  have hr := B.returns
  have hts : ∀ w ∈ tT, w.before _ s = true := fun w h => atoms_spec (ws := tC yX2_in cX2_in 2 (some .boolean)) B.pre w (List.mem_cons_of_mem _ h)
  have hown : s.vm.findClass RX2 = some m.cls := findClass_of_methodNamed B.named
  have hlocks := B.notSynchronized
  have C : cx RX2 D K p s m _ c cX2_in := ⟨hx, hb, hown, hts, hK, hN, hO⟩
  have hR : rmOk (headSpec (tC yX2_in cX2_in 2 (some .boolean)) (rmK 0 0 0)).room 0 0 0 := ⟨Nat.le_refl _, Nat.le_refl _, Nat.le_refl _, Nat.le_refl _⟩
  subst hH
  have hl := lv_entry ([.ref (o 0), .int x]) (n := 2) (Nat.le_of_ble_eq_true rfl)
  rw [lg_entry_eq]
  generalize (lg_sl ([.ref (o 0), .int x]) ++ List.replicate (2 - (lg_sl ([.ref (o 0), .int x])).length) Slot.unset).toArray = ls at hl ⊢
  have hl : lv_has ls 2 [(0, .ref (o 0)), (1, .int x)] := hl
  refine lv_iload_n hx hb dX2_in_0 rfl (lv_at hl 1 rfl) ?_
  refine lv_if_lt (tgt := 24) hx hb dX2_in_1 (by decide) (fun c1 => ?_) (fun c1 => ?_)
  · refine lv_iconst (v := nI 0) hx hb dX2_in_24 (by decide) ?_
    exact W.zret (v := nI 0) hx hb hr (by decide) (fun t ht _ => ⟨rfl, ht⟩) (fun q h => by cases h) dX2_in_25
  · refine lv_iload_n hx hb dX2_in_4 rfl (lv_at hl 1 rfl) ?_
    refine lv_sipush (v := nI 200) hx hb dX2_in_5 (by decide) ?_
    refine lv_icmp_ge (tgt := 24) hx hb dX2_in_8 (by decide) (fun c2 => ?_) (fun c2 => ?_)
    · refine lv_iconst (v := nI 0) hx hb dX2_in_24 (by decide) ?_
      exact W.zret (v := nI 0) hx hb hr (by decide) (fun t ht _ => ⟨rfl, ht⟩) (fun q h => by cases h) dX2_in_25
    · exact absurd h (fun z => z.elim c1 c2)
set_option maxHeartbeats 1000000 in
set_option maxRecDepth 100000 in
theorem cM_in (l : Launch) (hP : va_P D vwCl (mW R o K va fl n th ch mn po an) H) {i : Nat} (hi : i < 200) : Met l yX2_in (tC yX2_in cX2_in 2 (some .boolean)) (rmK 0 0 0) (kP D K H [.ref (o 0), .int (nI i)]) (k2_QcV (.int (bI (ch i)))) 0 0 (fun _ => False) := by
  refine Met.ofW (cc := cX2_in) (maxL := 2) (ret := (some .boolean)) (by decide) rfl ?_
  intro p e s m args below meth c s₁ B hml hv
  obtain ⟨rfl, hH, hK, hN, hO⟩ := hv
  have hx := B.exec
  have hb := B.bytes
  have hr := B.returns
  have hts : ∀ w ∈ tT, w.before _ s = true := fun w h => atoms_spec (ws := tC yX2_in cX2_in 2 (some .boolean)) B.pre w (List.mem_cons_of_mem _ h)
  have hown : s.vm.findClass RX2 = some m.cls := findClass_of_methodNamed B.named
  have hlocks := B.notSynchronized
  have C : cx RX2 D K p s m _ c cX2_in := ⟨hx, hb, hown, hts, hK, hN, hO⟩
  have hR : rmOk (headSpec (tC yX2_in cX2_in 2 (some .boolean)) (rmK 0 0 0)).room 0 0 0 := ⟨Nat.le_refl _, Nat.le_refl _, Nat.le_refl _, Nat.le_refl _⟩
  subst hH
  have hl := lv_entry ([.ref (o 0), .int (nI i)]) (n := 2) (Nat.le_of_ble_eq_true rfl)
  rw [lg_entry_eq]
  generalize (lg_sl ([.ref (o 0), .int (nI i)]) ++ List.replicate (2 - (lg_sl ([.ref (o 0), .int (nI i)])).length) Slot.unset).toArray = ls at hl ⊢
  have hl : lv_has ls 2 [(0, .ref (o 0)), (1, .int (nI i))] := hl
  refine lv_iload_n hx hb dX2_in_0 rfl (lv_at hl 1 rfl) ?_
  refine lv_if_lt (tgt := 24) hx hb dX2_in_1 (by decide) (fun c1 => ?_) (fun c1 => ?_)
  · exact absurd c1 (nI_pos (by omega))
  · refine lv_iload_n hx hb dX2_in_4 rfl (lv_at hl 1 rfl) ?_
    refine lv_sipush (v := nI 200) hx hb dX2_in_5 (by decide) ?_
    refine lv_icmp_ge (tgt := 24) hx hb dX2_in_8 (by decide) (fun c2 => ?_) (fun c2 => ?_)
    · have c2 : 200 ≤ i := (nI_leI (by omega) (by omega)).mp c2
      exact absurd hi (by omega)
    · have c2 : ¬ 200 ≤ i := fun z9 => c2 ((nI_leI (by omega) (by omega)).mpr z9)
      refine lv_aload_n hx hb dX2_in_11 rfl (lv_at hl 0 rfl) ?_
      refine gM_chosen C hP dX2_in_12 ?_
      refine lv_iload_n hx hb dX2_in_15 rfl (lv_at hl 1 rfl) ?_
      refine lM_chosen C hP (by omega) dX2_in_16 ?_
      refine lv_if_eq (tgt := 24) hx hb dX2_in_17 (by decide) (fun c3 => ?_) (fun c3 => ?_)
      · have c3 : (ch i) = false := (bI_z (ch i)).mp c3
        refine lv_iconst (v := nI 0) hx hb dX2_in_24 (by decide) ?_
        exact W.zret (v := nI 0) hx hb hr (by decide) (fun t ht _ => ⟨rt0 c3, ht⟩) (fun q h => by cases h) dX2_in_25
      · have c3 : (ch i) = true := (bI_nz (ch i)).mp c3
        refine lv_iconst (v := nI 1) hx hb dX2_in_20 (by decide) ?_
        refine lv_goto (tgt := 25) hx hb dX2_in_21 (by decide) ?_
        exact W.zret (v := nI 1) hx hb hr (by decide) (fun t ht _ => ⟨rt1 c3, ht⟩) (fun q h => by cases h) dX2_in_25
set_option maxHeartbeats 1000000 in
set_option maxRecDepth 100000 in
theorem cM_value_no (l : Launch) (hP : va_P D vwCl (mW R o K va fl n th ch mn po an) H) (x : Int32) (h : isP x = false) : Met l yX2_value (tC yX2_value cX2_value 2 (some .long)) (rmK 1 0 0) (kP D K H [.ref (o 0), .int x]) (k2_QcV (.long 0)) 0 0 (fun _ => False) := by
  refine Met.ofW (cc := cX2_value) (maxL := 2) (ret := (some .long)) (by decide) rfl ?_
  intro p e s m args below meth c s₁ B hml hv
  obtain ⟨rfl, hH, hK, hN, hO⟩ := hv
  have hx := B.exec
  have hb := B.bytes
  have hr := B.returns
  have hts : ∀ w ∈ tT, w.before _ s = true := fun w h => atoms_spec (ws := tC yX2_value cX2_value 2 (some .long)) B.pre w (List.mem_cons_of_mem _ h)
  have hown : s.vm.findClass RX2 = some m.cls := findClass_of_methodNamed B.named
  have hlocks := B.notSynchronized
  have C : cx RX2 D K p s m _ c cX2_value := ⟨hx, hb, hown, hts, hK, hN, hO⟩
  have hR : rmOk (headSpec (tC yX2_value cX2_value 2 (some .long)) (rmK 1 0 0)).room 1 0 0 := ⟨Nat.le_refl _, Nat.le_refl _, Nat.le_refl _, Nat.le_refl _⟩
  subst hH
  have hl := lv_entry ([.ref (o 0), .int x]) (n := 2) (Nat.le_of_ble_eq_true rfl)
  rw [lg_entry_eq]
  generalize (lg_sl ([.ref (o 0), .int x]) ++ List.replicate (2 - (lg_sl ([.ref (o 0), .int x])).length) Slot.unset).toArray = ls at hl ⊢
  have hl : lv_has ls 2 [(0, .ref (o 0)), (1, .int x)] := hl
  refine lv_iload_n hx hb dX2_value_0 rfl (lv_at hl 1 rfl) ?_
  refine pv (va_runS (As := [.int x]) (rest := []) ⟨hx, hb, hml, hown, hts⟩ (cM_isPosition l x) (cwS 1 hts gM_37 rfl rfl rfl (by decide +kernel) (rmF hR (by decide) (by decide))) (kP_S C) rfl rfl hl.1 rfl (lv_room (Nat.le_of_ble_eq_true rfl)) dX2_value_1 ⟨hR.2.2.1, hR.2.2.2⟩) ?_
  refine lv_if_eq (tgt := 16) hx hb dX2_value_4 (by decide) (fun c1 => ?_) (fun c1 => ?_)
  · have c1 : (isP x) = false := (bI_z (isP x)).mp c1
    refine lv_lconst (v := 0) hx hb dX2_value_16 (by decide) ?_
    exact W.lret (v := 0) hx hb hr (fun t ht _ => ⟨rfl, ht⟩) (fun q h => by cases h) dX2_value_17
  · have c1 : (isP x) = true := (bI_nz (isP x)).mp c1
    exact absurd (c1.symm.trans h) (by decide)
set_option maxHeartbeats 1000000 in
set_option maxRecDepth 100000 in
theorem cM_value (l : Launch) (hP : va_P D vwCl (mW R o K va fl n th ch mn po an) H) {q : Nat} (hq3 : q < 300) : Met l yX2_value (tC yX2_value cX2_value 2 (some .long)) (rmK 1 0 0) (kP D K H [.ref (o 0), .int (nI q)]) (k2_QcV (.long (va q))) 0 0 (fun _ => False) := by
  refine Met.ofW (cc := cX2_value) (maxL := 2) (ret := (some .long)) (by decide) rfl ?_
  intro p e s m args below meth c s₁ B hml hv
  obtain ⟨rfl, hH, hK, hN, hO⟩ := hv
  have hx := B.exec
  have hb := B.bytes
  have hr := B.returns
  have hts : ∀ w ∈ tT, w.before _ s = true := fun w h => atoms_spec (ws := tC yX2_value cX2_value 2 (some .long)) B.pre w (List.mem_cons_of_mem _ h)
  have hown : s.vm.findClass RX2 = some m.cls := findClass_of_methodNamed B.named
  have hlocks := B.notSynchronized
  have C : cx RX2 D K p s m _ c cX2_value := ⟨hx, hb, hown, hts, hK, hN, hO⟩
  have hR : rmOk (headSpec (tC yX2_value cX2_value 2 (some .long)) (rmK 1 0 0)).room 1 0 0 := ⟨Nat.le_refl _, Nat.le_refl _, Nat.le_refl _, Nat.le_refl _⟩
  subst hH
  have hl := lv_entry ([.ref (o 0), .int (nI q)]) (n := 2) (Nat.le_of_ble_eq_true rfl)
  rw [lg_entry_eq]
  generalize (lg_sl ([.ref (o 0), .int (nI q)]) ++ List.replicate (2 - (lg_sl ([.ref (o 0), .int (nI q)])).length) Slot.unset).toArray = ls at hl ⊢
  have hl : lv_has ls 2 [(0, .ref (o 0)), (1, .int (nI q))] := hl
  refine lv_iload_n hx hb dX2_value_0 rfl (lv_at hl 1 rfl) ?_
  refine pv (va_runS (As := [.int (nI q)]) (rest := []) ⟨hx, hb, hml, hown, hts⟩ (cM_isPosition l (nI q)) (cwS 1 hts gM_37 rfl rfl rfl (by decide +kernel) (rmF hR (by decide) (by decide))) (kP_S C) rfl rfl hl.1 rfl (lv_room (Nat.le_of_ble_eq_true rfl)) dX2_value_1 ⟨hR.2.2.1, hR.2.2.2⟩) ?_
  refine lv_if_eq (tgt := 16) hx hb dX2_value_4 (by decide) (fun c1 => ?_) (fun c1 => ?_)
  · have c1 : (isP (nI q)) = false := (bI_z (isP (nI q))).mp c1
    exact absurd ((isP_nI hq3).symm.trans c1) (by decide)
  · have c1 : (isP (nI q)) = true := (bI_nz (isP (nI q))).mp c1
    refine lv_aload_n hx hb dX2_value_7 rfl (lv_at hl 0 rfl) ?_
    refine gM_values C hP dX2_value_8 ?_
    refine lv_iload_n hx hb dX2_value_11 rfl (lv_at hl 1 rfl) ?_
    refine lM_values C hP (by omega) dX2_value_12 ?_
    refine lv_goto (tgt := 17) hx hb dX2_value_13 (by decide) ?_
    exact W.lret (v := va q) hx hb hr (fun t ht _ => ⟨rfl, ht⟩) (fun q h => by cases h) dX2_value_17
set_option maxHeartbeats 1000000 in
set_option maxRecDepth 100000 in
theorem cM_netOf_no (l : Launch) (hP : va_P D vwCl (mW R o K va fl n th ch mn po an) H) (hn200 : n ≤ 200) (x y : Int32) (h : nT n th x) : Met l yX2_netOf (tC yX2_netOf cX2_netOf 3 (some .long)) (rmK 2 0 0) (kP D K H [.ref (o 0), .int x, .int y]) (k2_QcV (.long 0)) 0 0 (fun _ => False) := by
  refine Met.ofW (cc := cX2_netOf) (maxL := 3) (ret := (some .long)) (by decide) rfl ?_
  intro p e s m args below meth c s₁ B hml hv
  obtain ⟨rfl, hH, hK, hN, hO⟩ := hv
  have hx := B.exec
  have hb := B.bytes
  have hr := B.returns
  have hts : ∀ w ∈ tT, w.before _ s = true := fun w h => atoms_spec (ws := tC yX2_netOf cX2_netOf 3 (some .long)) B.pre w (List.mem_cons_of_mem _ h)
  have hown : s.vm.findClass RX2 = some m.cls := findClass_of_methodNamed B.named
  have hlocks := B.notSynchronized
  have C : cx RX2 D K p s m _ c cX2_netOf := ⟨hx, hb, hown, hts, hK, hN, hO⟩
  have hR : rmOk (headSpec (tC yX2_netOf cX2_netOf 3 (some .long)) (rmK 2 0 0)).room 2 0 0 := ⟨Nat.le_refl _, Nat.le_refl _, Nat.le_refl _, Nat.le_refl _⟩
  subst hH
  have hl := lv_entry ([.ref (o 0), .int x, .int y]) (n := 3) (Nat.le_of_ble_eq_true rfl)
  rw [lg_entry_eq]
  generalize (lg_sl ([.ref (o 0), .int x, .int y]) ++ List.replicate (3 - (lg_sl ([.ref (o 0), .int x, .int y])).length) Slot.unset).toArray = ls at hl ⊢
  have hl : lv_has ls 3 [(0, .ref (o 0)), (1, .int x), (2, .int y)] := hl
  refine lv_aload_n hx hb dX2_netOf_0 rfl (lv_at hl 0 rfl) ?_
  refine lv_iload_n hx hb dX2_netOf_1 rfl (lv_at hl 1 rfl) ?_
  refine pv (va_runV (As := [.int x]) (rest := []) ⟨hx, hb, hml, hown, hts⟩ (cM_isThere_no l hP hn200 x h) (cwV 1 hts gM_53 rfl rfl rfl (by decide +kernel) (rmF hR (by decide) (by decide))) (kP_V C (va_recv C.2.2.2.2.1 hP (ci := ciM) (q0 := 0) rfl rfl)) rfl rfl hl.1 rfl (lv_room (Nat.le_of_ble_eq_true rfl)) dX2_netOf_2 ⟨hR.2.2.1, hR.2.2.2⟩) ?_
  refine lv_if_eq (tgt := 24) hx hb dX2_netOf_5 (by decide) (fun c1 => ?_) (fun c1 => ?_)
  · refine lv_lconst (v := 0) hx hb dX2_netOf_24 (by decide) ?_
    exact W.lret (v := 0) hx hb hr (fun t ht _ => ⟨rfl, ht⟩) (fun q h => by cases h) dX2_netOf_25
  · exact absurd (by decide) c1
set_option maxHeartbeats 1000000 in
set_option maxRecDepth 100000 in
theorem cM_netOf_no2 (l : Launch) (hP : va_P D vwCl (mW R o K va fl n th ch mn po an) H) (hn200 : n ≤ 200) {i : Nat} (hi : i < n) (hT : th i = true) (y : Int32) (h : isP y = false) : Met l yX2_netOf (tC yX2_netOf cX2_netOf 3 (some .long)) (rmK 2 0 0) (kP D K H [.ref (o 0), .int (nI i), .int y]) (k2_QcV (.long 0)) 0 0 (fun _ => False) := by
  refine Met.ofW (cc := cX2_netOf) (maxL := 3) (ret := (some .long)) (by decide) rfl ?_
  intro p e s m args below meth c s₁ B hml hv
  obtain ⟨rfl, hH, hK, hN, hO⟩ := hv
  have hx := B.exec
  have hb := B.bytes
  have hr := B.returns
  have hts : ∀ w ∈ tT, w.before _ s = true := fun w h => atoms_spec (ws := tC yX2_netOf cX2_netOf 3 (some .long)) B.pre w (List.mem_cons_of_mem _ h)
  have hown : s.vm.findClass RX2 = some m.cls := findClass_of_methodNamed B.named
  have hlocks := B.notSynchronized
  have C : cx RX2 D K p s m _ c cX2_netOf := ⟨hx, hb, hown, hts, hK, hN, hO⟩
  have hR : rmOk (headSpec (tC yX2_netOf cX2_netOf 3 (some .long)) (rmK 2 0 0)).room 2 0 0 := ⟨Nat.le_refl _, Nat.le_refl _, Nat.le_refl _, Nat.le_refl _⟩
  subst hH
  have hl := lv_entry ([.ref (o 0), .int (nI i), .int y]) (n := 3) (Nat.le_of_ble_eq_true rfl)
  rw [lg_entry_eq]
  generalize (lg_sl ([.ref (o 0), .int (nI i), .int y]) ++ List.replicate (3 - (lg_sl ([.ref (o 0), .int (nI i), .int y])).length) Slot.unset).toArray = ls at hl ⊢
  have hl : lv_has ls 3 [(0, .ref (o 0)), (1, .int (nI i)), (2, .int y)] := hl
  refine lv_aload_n hx hb dX2_netOf_0 rfl (lv_at hl 0 rfl) ?_
  refine lv_iload_n hx hb dX2_netOf_1 rfl (lv_at hl 1 rfl) ?_
  refine pv (va_runV (As := [.int (nI i)]) (rest := []) ⟨hx, hb, hml, hown, hts⟩ (cM_isThere l hP hn200 hi hT) (cwV 1 hts gM_53 rfl rfl rfl (by decide +kernel) (rmF hR (by decide) (by decide))) (kP_V C (va_recv C.2.2.2.2.1 hP (ci := ciM) (q0 := 0) rfl rfl)) rfl rfl hl.1 rfl (lv_room (Nat.le_of_ble_eq_true rfl)) dX2_netOf_2 ⟨hR.2.2.1, hR.2.2.2⟩) ?_
  refine lv_if_eq (tgt := 24) hx hb dX2_netOf_5 (by decide) (fun c1 => ?_) (fun c1 => ?_)
  · exact absurd c1 (by decide)
  · refine lv_iload_n hx hb dX2_netOf_8 rfl (lv_at hl 2 rfl) ?_
    refine pv (va_runS (As := [.int y]) (rest := []) ⟨hx, hb, hml, hown, hts⟩ (cM_isPosition l y) (cwS 1 hts gM_37 rfl rfl rfl (by decide +kernel) (rmF hR (by decide) (by decide))) (kP_S C) rfl rfl hl.1 rfl (lv_room (Nat.le_of_ble_eq_true rfl)) dX2_netOf_9 ⟨hR.2.2.1, hR.2.2.2⟩) ?_
    refine lv_if_eq (tgt := 24) hx hb dX2_netOf_12 (by decide) (fun c2 => ?_) (fun c2 => ?_)
    · have c2 : (isP y) = false := (bI_z (isP y)).mp c2
      refine lv_lconst (v := 0) hx hb dX2_netOf_24 (by decide) ?_
      exact W.lret (v := 0) hx hb hr (fun t ht _ => ⟨rfl, ht⟩) (fun q h => by cases h) dX2_netOf_25
    · have c2 : (isP y) = true := (bI_nz (isP y)).mp c2
      exact absurd (c2.symm.trans h) (by decide)
set_option maxHeartbeats 1000000 in
set_option maxRecDepth 100000 in
theorem cM_netOf (l : Launch) (hP : va_P D vwCl (mW R o K va fl n th ch mn po an) H) (hn200 : n ≤ 200) {i : Nat} (hi : i < n) (hT : th i = true) (hmi : mn i ≤ 16) (hpo : ∀ k, k < mn i → psM po i k < 300) {q : Nat} (hq3 : q < 300) : Met l yX2_netOf (tC yX2_netOf cX2_netOf 3 (some .long)) (rmK 2 0 0) (kP D K H [.ref (o 0), .int (nI i), .int (nI q)]) (k2_QcV (.long (netA mn po an i q))) 0 0 (fun _ => False) := by
  refine Met.ofW (cc := cX2_netOf) (maxL := 3) (ret := (some .long)) (by decide) rfl ?_
  intro p e s m args below meth c s₁ B hml hv
  obtain ⟨rfl, hH, hK, hN, hO⟩ := hv
  have hx := B.exec
  have hb := B.bytes
  have hr := B.returns
  have hts : ∀ w ∈ tT, w.before _ s = true := fun w h => atoms_spec (ws := tC yX2_netOf cX2_netOf 3 (some .long)) B.pre w (List.mem_cons_of_mem _ h)
  have hown : s.vm.findClass RX2 = some m.cls := findClass_of_methodNamed B.named
  have hlocks := B.notSynchronized
  have C : cx RX2 D K p s m _ c cX2_netOf := ⟨hx, hb, hown, hts, hK, hN, hO⟩
  have hR : rmOk (headSpec (tC yX2_netOf cX2_netOf 3 (some .long)) (rmK 2 0 0)).room 2 0 0 := ⟨Nat.le_refl _, Nat.le_refl _, Nat.le_refl _, Nat.le_refl _⟩
  subst hH
  have hl := lv_entry ([.ref (o 0), .int (nI i), .int (nI q)]) (n := 3) (Nat.le_of_ble_eq_true rfl)
  rw [lg_entry_eq]
  generalize (lg_sl ([.ref (o 0), .int (nI i), .int (nI q)]) ++ List.replicate (3 - (lg_sl ([.ref (o 0), .int (nI i), .int (nI q)])).length) Slot.unset).toArray = ls at hl ⊢
  have hl : lv_has ls 3 [(0, .ref (o 0)), (1, .int (nI i)), (2, .int (nI q))] := hl
  refine lv_aload_n hx hb dX2_netOf_0 rfl (lv_at hl 0 rfl) ?_
  refine lv_iload_n hx hb dX2_netOf_1 rfl (lv_at hl 1 rfl) ?_
  refine pv (va_runV (As := [.int (nI i)]) (rest := []) ⟨hx, hb, hml, hown, hts⟩ (cM_isThere l hP hn200 hi hT) (cwV 1 hts gM_53 rfl rfl rfl (by decide +kernel) (rmF hR (by decide) (by decide))) (kP_V C (va_recv C.2.2.2.2.1 hP (ci := ciM) (q0 := 0) rfl rfl)) rfl rfl hl.1 rfl (lv_room (Nat.le_of_ble_eq_true rfl)) dX2_netOf_2 ⟨hR.2.2.1, hR.2.2.2⟩) ?_
  refine lv_if_eq (tgt := 24) hx hb dX2_netOf_5 (by decide) (fun c1 => ?_) (fun c1 => ?_)
  · exact absurd c1 (by decide)
  · refine lv_iload_n hx hb dX2_netOf_8 rfl (lv_at hl 2 rfl) ?_
    refine pv (va_runS (As := [.int (nI q)]) (rest := []) ⟨hx, hb, hml, hown, hts⟩ (cM_isPosition l (nI q)) (cwS 1 hts gM_37 rfl rfl rfl (by decide +kernel) (rmF hR (by decide) (by decide))) (kP_S C) rfl rfl hl.1 rfl (lv_room (Nat.le_of_ble_eq_true rfl)) dX2_netOf_9 ⟨hR.2.2.1, hR.2.2.2⟩) ?_
    refine lv_if_eq (tgt := 24) hx hb dX2_netOf_12 (by decide) (fun c2 => ?_) (fun c2 => ?_)
    · have c2 : (isP (nI q)) = false := (bI_z (isP (nI q))).mp c2
      exact absurd ((isP_nI hq3).symm.trans c2) (by decide)
    · have c2 : (isP (nI q)) = true := (bI_nz (isP (nI q))).mp c2
      refine lv_aload_n hx hb dX2_netOf_15 rfl (lv_at hl 0 rfl) ?_
      refine lv_iload_n hx hb dX2_netOf_16 rfl (lv_at hl 1 rfl) ?_
      refine lv_iload_n hx hb dX2_netOf_17 rfl (lv_at hl 2 rfl) ?_
      refine pv (va_runV (As := [.int (nI i), .int (nI q)]) (rest := []) ⟨hx, hb, hml, hown, hts⟩ (cM_netAt l hP (by omega) hmi hpo hq3) (cwV 2 hts gM_60 rfl rfl rfl (by decide +kernel) (rmF hR (by decide) (by decide))) (kP_V C (va_recv C.2.2.2.2.1 hP (ci := ciM) (q0 := 0) rfl rfl)) rfl rfl hl.1 rfl (lv_room (Nat.le_of_ble_eq_true rfl)) dX2_netOf_18 ⟨hR.2.2.1, hR.2.2.2⟩) ?_
      refine lv_goto (tgt := 25) hx hb dX2_netOf_21 (by decide) ?_
      exact W.lret (v := netA mn po an i q) hx hb hr (fun t ht _ => ⟨rfl, ht⟩) (fun q h => by cases h) dX2_netOf_25
set_option maxHeartbeats 1000000 in
set_option maxRecDepth 100000 in
theorem cM_count (l : Launch) (hP : va_P D vwCl (mW R o K va fl n th ch mn po an) H) (x : Int32) : Met l yX2_count (tC yX2_count cX2_count 5 (some .int)) (rmK 0 0 0) (kP D K H [.ref (o 0), .int x]) (k2_QcV (.int (cntS x n (cn th 200) (cn ch 200)))) 0 0 (fun _ => False) := by
  refine Met.ofW (cc := cX2_count) (maxL := 5) (ret := (some .int)) (by decide) rfl ?_
  intro p e s m args below meth c s₁ B hml hv
  obtain ⟨rfl, hH, hK, hN, hO⟩ := hv
  have hx := B.exec
  have hb := B.bytes
  have hr := B.returns
  have hts : ∀ w ∈ tT, w.before _ s = true := fun w h => atoms_spec (ws := tC yX2_count cX2_count 5 (some .int)) B.pre w (List.mem_cons_of_mem _ h)
  have hown : s.vm.findClass RX2 = some m.cls := findClass_of_methodNamed B.named
  have hlocks := B.notSynchronized
  have C : cx RX2 D K p s m _ c cX2_count := ⟨hx, hb, hown, hts, hK, hN, hO⟩
  have hR : rmOk (headSpec (tC yX2_count cX2_count 5 (some .int)) (rmK 0 0 0)).room 0 0 0 := ⟨Nat.le_refl _, Nat.le_refl _, Nat.le_refl _, Nat.le_refl _⟩
  subst hH
  have hl := lv_entry ([.ref (o 0), .int x]) (n := 5) (Nat.le_of_ble_eq_true rfl)
  rw [lg_entry_eq]
  generalize (lg_sl ([.ref (o 0), .int x]) ++ List.replicate (5 - (lg_sl ([.ref (o 0), .int x])).length) Slot.unset).toArray = ls at hl ⊢
  have hl : lv_has ls 5 [(0, .ref (o 0)), (1, .int x)] := hl
  refine lv_iconst (v := nI 0) hx hb dX2_count_0 (by decide) ?_
  refine lv_istore_n (lv' := [(2, .int (nI 0)), (0, .ref (o 0)), (1, .int x)]) hx hb dX2_count_1 rfl hl (by decide) rfl (fun ls hl => ?_)
  refine lv_iconst (v := nI 0) hx hb dX2_count_2 (by decide) ?_
  refine lv_istore_n (lv' := [(3, .int (nI 0)), (2, .int (nI 0)), (0, .ref (o 0)), (1, .int x)]) hx hb dX2_count_3 rfl hl (by decide) rfl (fun ls hl => ?_)
  refine lv_iconst (v := nI 0) hx hb dX2_count_4 (by decide) ?_
  refine lv_istore (lv' := [(4, .int (nI 0)), (3, .int (nI 0)), (2, .int (nI 0)), (0, .ref (o 0)), (1, .int x)]) hx hb dX2_count_5 hl (by decide) rfl (fun ls hl => ?_)
  refine lpW (U := 200) (pcH := 7) (I := fun k ls => lv_has ls 5 [(4, .int (nI k)), (3, .int (nI (cn ch k))), (2, .int (nI (cn th k))), (0, .ref (o 0)), (1, .int x)]) (fun k ls hkk hI ihk => ?_) 0 ls (Nat.zero_le _) (lv_sub hl [0, 1, 2, 3, 4] rfl)
  have hl := hI
  refine lv_iload hx hb dX2_count_7 (lv_at hl 0 rfl) ?_
  refine lv_sipush (v := nI 200) hx hb dX2_count_9 (by decide) ?_
  refine lv_icmp_ge (tgt := 57) hx hb dX2_count_12 (by decide) (fun c1 => ?_) (fun c1 => ?_)
  · have c1 : 200 ≤ k := (nI_leI (by omega) (by omega)).mp c1
    rw [show k = 200 by omega] at hl
    by_cases h0 : x = nI 0
    · refine lv_iload_n hx hb dX2_count_57 rfl (lv_at hl 4 rfl) ?_
      refine lv_if_ne (tgt := 68) hx hb dX2_count_58 (by decide) (fun c2 => ?_) (fun c2 => ?_)
      · exact absurd (h0.trans (by decide)) c2
      · refine lv_aload_n hx hb dX2_count_61 rfl (lv_at hl 3 rfl) ?_
        refine gM_items C hP dX2_count_62 ?_
        refine lv_goto (tgt := 87) hx hb dX2_count_65 (by decide) ?_
        exact W.iret (v := nI n) hx hb hr (fun t ht _ => ⟨rti (by unfold cntS; rw [if_pos h0]), ht⟩) (fun q h => by cases h) dX2_count_87
    · refine lv_iload_n hx hb dX2_count_57 rfl (lv_at hl 4 rfl) ?_
      refine lv_if_ne (tgt := 68) hx hb dX2_count_58 (by decide) (fun c2 => ?_) (fun c2 => ?_)
      · refine lv_iload_n hx hb dX2_count_68 rfl (lv_at hl 4 rfl) ?_
        refine lv_iconst (v := nI 1) hx hb dX2_count_69 (by decide) ?_
        refine lv_icmp_ne (tgt := 77) hx hb dX2_count_70 (by decide) (fun c3 => ?_) (fun c3 => ?_)
        · have h1 : ¬ x = nI 1 := c3
          refine lv_iload_n hx hb dX2_count_77 rfl (lv_at hl 4 rfl) ?_
          refine lv_iconst (v := nI 2) hx hb dX2_count_78 (by decide) ?_
          refine lv_icmp_ne (tgt := 86) hx hb dX2_count_79 (by decide) (fun c4 => ?_) (fun c4 => ?_)
          · have h2 : ¬ x = nI 2 := c4
            refine lv_iconst (v := (-1)) hx hb dX2_count_86 (by decide) ?_
            exact W.iret (v := (-1)) hx hb hr (fun t ht _ => ⟨rti (by unfold cntS; rw [if_neg h0, if_neg h1, if_neg h2]), ht⟩) (fun q h => by cases h) dX2_count_87
          · have h2 : x = nI 2 := c4
            refine lv_iload_n hx hb dX2_count_82 rfl (lv_at hl 1 rfl) ?_
            refine lv_goto (tgt := 87) hx hb dX2_count_83 (by decide) ?_
            exact W.iret (v := nI (cn ch 200)) hx hb hr (fun t ht _ => ⟨rti (by unfold cntS; rw [if_neg h0, if_neg h1, if_pos h2]), ht⟩) (fun q h => by cases h) dX2_count_87
        · have h1 : x = nI 1 := c3
          refine lv_iload_n hx hb dX2_count_73 rfl (lv_at hl 2 rfl) ?_
          refine lv_goto (tgt := 87) hx hb dX2_count_74 (by decide) ?_
          exact W.iret (v := nI (cn th 200)) hx hb hr (fun t ht _ => ⟨rti (by unfold cntS; rw [if_neg h0, if_pos h1]), ht⟩) (fun q h => by cases h) dX2_count_87
      · exact absurd (c2.trans (by decide)) h0
  · have c1 : ¬ 200 ≤ k := fun z9 => c1 ((nI_leI (by omega) (by omega)).mpr z9)
    refine lv_iload_n hx hb dX2_count_15 rfl (lv_at hl 2 rfl) ?_
    refine lv_aload_n hx hb dX2_count_16 rfl (lv_at hl 3 rfl) ?_
    refine gM_there C hP dX2_count_17 ?_
    refine lv_iload hx hb dX2_count_20 (lv_at hl 0 rfl) ?_
    refine lM_there C hP (by omega) dX2_count_22 ?_
    refine lv_if_eq (tgt := 30) hx hb dX2_count_23 (by decide) (fun c2 => ?_) (fun c2 => ?_)
    · have c2 : (th k) = false := (bI_z (th k)).mp c2
      refine lv_iconst (v := nI 0) hx hb dX2_count_30 (by decide) ?_
      refine lv_iadd hx hb dX2_count_31 ?_
      refine tp_i (y := nI ((cn th k) + 0)) (nI_add (cn th k) 0) ?_
      refine tp_i (y := nI (cn th (k + 1))) (congrArg nI (cn_f c2)) ?_
      refine lv_istore_n (lv' := [(2, .int (nI (cn th (k + 1)))), (4, .int (nI k)), (3, .int (nI (cn ch k))), (0, .ref (o 0)), (1, .int x)]) hx hb dX2_count_32 rfl hl (by decide) rfl (fun ls hl => ?_)
      refine lv_iload_n hx hb dX2_count_33 rfl (lv_at hl 2 rfl) ?_
      refine lv_aload_n hx hb dX2_count_34 rfl (lv_at hl 3 rfl) ?_
      refine gM_chosen C hP dX2_count_35 ?_
      refine lv_iload hx hb dX2_count_38 (lv_at hl 1 rfl) ?_
      refine lM_chosen C hP (by omega) dX2_count_40 ?_
      refine lv_if_eq (tgt := 48) hx hb dX2_count_41 (by decide) (fun c3 => ?_) (fun c3 => ?_)
      · have c3 : (ch k) = false := (bI_z (ch k)).mp c3
        refine lv_iconst (v := nI 0) hx hb dX2_count_48 (by decide) ?_
        refine lv_iadd hx hb dX2_count_49 ?_
        refine tp_i (y := nI ((cn ch k) + 0)) (nI_add (cn ch k) 0) ?_
        refine tp_i (y := nI (cn ch (k + 1))) (congrArg nI (cn_f c3)) ?_
        refine lv_istore_n (lv' := [(3, .int (nI (cn ch (k + 1)))), (2, .int (nI (cn th (k + 1)))), (4, .int (nI k)), (0, .ref (o 0)), (1, .int x)]) hx hb dX2_count_50 rfl hl (by decide) rfl (fun ls hl => ?_)
        refine lv_iinc (v := nI (k + 1)) (lv' := [(4, .int (nI (k + 1))), (3, .int (nI (cn ch (k + 1)))), (2, .int (nI (cn th (k + 1)))), (0, .ref (o 0)), (1, .int x)]) hx hb dX2_count_51 hl (k := 2) rfl (nI_1 k) (by decide) rfl (fun ls hl => ?_)
        refine lv_goto (tgt := 7) hx hb dX2_count_54 (by decide) ?_
        exact ihk (by omega) ls (lv_sub hl [0, 1, 2, 3, 4] rfl)
      · have c3 : (ch k) = true := (bI_nz (ch k)).mp c3
        refine lv_iconst (v := nI 1) hx hb dX2_count_44 (by decide) ?_
        refine lv_goto (tgt := 49) hx hb dX2_count_45 (by decide) ?_
        refine lv_iadd hx hb dX2_count_49 ?_
        refine tp_i (y := nI ((cn ch k) + 1)) (nI_add (cn ch k) 1) ?_
        refine tp_i (y := nI (cn ch (k + 1))) (congrArg nI (cn_t c3)) ?_
        refine lv_istore_n (lv' := [(3, .int (nI (cn ch (k + 1)))), (2, .int (nI (cn th (k + 1)))), (4, .int (nI k)), (0, .ref (o 0)), (1, .int x)]) hx hb dX2_count_50 rfl hl (by decide) rfl (fun ls hl => ?_)
        refine lv_iinc (v := nI (k + 1)) (lv' := [(4, .int (nI (k + 1))), (3, .int (nI (cn ch (k + 1)))), (2, .int (nI (cn th (k + 1)))), (0, .ref (o 0)), (1, .int x)]) hx hb dX2_count_51 hl (k := 2) rfl (nI_1 k) (by decide) rfl (fun ls hl => ?_)
        refine lv_goto (tgt := 7) hx hb dX2_count_54 (by decide) ?_
        exact ihk (by omega) ls (lv_sub hl [0, 1, 2, 3, 4] rfl)
    · have c2 : (th k) = true := (bI_nz (th k)).mp c2
      refine lv_iconst (v := nI 1) hx hb dX2_count_26 (by decide) ?_
      refine lv_goto (tgt := 31) hx hb dX2_count_27 (by decide) ?_
      refine lv_iadd hx hb dX2_count_31 ?_
      refine tp_i (y := nI ((cn th k) + 1)) (nI_add (cn th k) 1) ?_
      refine tp_i (y := nI (cn th (k + 1))) (congrArg nI (cn_t c2)) ?_
      refine lv_istore_n (lv' := [(2, .int (nI (cn th (k + 1)))), (4, .int (nI k)), (3, .int (nI (cn ch k))), (0, .ref (o 0)), (1, .int x)]) hx hb dX2_count_32 rfl hl (by decide) rfl (fun ls hl => ?_)
      refine lv_iload_n hx hb dX2_count_33 rfl (lv_at hl 2 rfl) ?_
      refine lv_aload_n hx hb dX2_count_34 rfl (lv_at hl 3 rfl) ?_
      refine gM_chosen C hP dX2_count_35 ?_
      refine lv_iload hx hb dX2_count_38 (lv_at hl 1 rfl) ?_
      refine lM_chosen C hP (by omega) dX2_count_40 ?_
      refine lv_if_eq (tgt := 48) hx hb dX2_count_41 (by decide) (fun c3 => ?_) (fun c3 => ?_)
      · have c3 : (ch k) = false := (bI_z (ch k)).mp c3
        refine lv_iconst (v := nI 0) hx hb dX2_count_48 (by decide) ?_
        refine lv_iadd hx hb dX2_count_49 ?_
        refine tp_i (y := nI ((cn ch k) + 0)) (nI_add (cn ch k) 0) ?_
        refine tp_i (y := nI (cn ch (k + 1))) (congrArg nI (cn_f c3)) ?_
        refine lv_istore_n (lv' := [(3, .int (nI (cn ch (k + 1)))), (2, .int (nI (cn th (k + 1)))), (4, .int (nI k)), (0, .ref (o 0)), (1, .int x)]) hx hb dX2_count_50 rfl hl (by decide) rfl (fun ls hl => ?_)
        refine lv_iinc (v := nI (k + 1)) (lv' := [(4, .int (nI (k + 1))), (3, .int (nI (cn ch (k + 1)))), (2, .int (nI (cn th (k + 1)))), (0, .ref (o 0)), (1, .int x)]) hx hb dX2_count_51 hl (k := 2) rfl (nI_1 k) (by decide) rfl (fun ls hl => ?_)
        refine lv_goto (tgt := 7) hx hb dX2_count_54 (by decide) ?_
        exact ihk (by omega) ls (lv_sub hl [0, 1, 2, 3, 4] rfl)
      · have c3 : (ch k) = true := (bI_nz (ch k)).mp c3
        refine lv_iconst (v := nI 1) hx hb dX2_count_44 (by decide) ?_
        refine lv_goto (tgt := 49) hx hb dX2_count_45 (by decide) ?_
        refine lv_iadd hx hb dX2_count_49 ?_
        refine tp_i (y := nI ((cn ch k) + 1)) (nI_add (cn ch k) 1) ?_
        refine tp_i (y := nI (cn ch (k + 1))) (congrArg nI (cn_t c3)) ?_
        refine lv_istore_n (lv' := [(3, .int (nI (cn ch (k + 1)))), (2, .int (nI (cn th (k + 1)))), (4, .int (nI k)), (0, .ref (o 0)), (1, .int x)]) hx hb dX2_count_50 rfl hl (by decide) rfl (fun ls hl => ?_)
        refine lv_iinc (v := nI (k + 1)) (lv' := [(4, .int (nI (k + 1))), (3, .int (nI (cn ch (k + 1)))), (2, .int (nI (cn th (k + 1)))), (0, .ref (o 0)), (1, .int x)]) hx hb dX2_count_51 hl (k := 2) rfl (nI_1 k) (by decide) rfl (fun ls hl => ?_)
        refine lv_goto (tgt := 7) hx hb dX2_count_54 (by decide) ?_
        exact ihk (by omega) ls (lv_sub hl [0, 1, 2, 3, 4] rfl)
end MM1
