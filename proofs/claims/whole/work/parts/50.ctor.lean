/-! CONSTRUCTORS, and the class's item -/
theorem at_len (ws : va_W) (x : Nat × va_E) (y : va_W) : (ws ++ x :: y)[ws.length]? = some x := by
  rw [List.getElem?_append_right (Nat.le_refl _), Nat.sub_self]; rfl
theorem set_len (ws : va_W) (x z : Nat × va_E) (y : va_W) : (ws ++ x :: y).set ws.length z = ws ++ z :: y := by
  rw [List.set_append_right _ _ (Nat.le_refl _), Nat.sub_self]; rfl
section PFC
variable {p : Program} {l : Launch} {e : Env} {Rm : Room} {s : State} {m : MethodId} {args : Array Value} {below : List Frame} {meth : Method} {c : Code} {H : Heap} {locs : List Loc} {cells slots : Nat} {Q : State → Prop} {cc : ByteArray} {pc : Nat} {ls : Array Slot} {rest : List Value} {own : String} {D : va_G} {A : Nat → Prop} {H0 : Heap} {K : Nat → ClassId} {ws y : va_W}
theorem pf_ {C : String} {T : u_T} {N ci index a : Nat} {fs : List Value} (C0 : cx own D K p s m args c cc) (hin : ∀ w ∈ u_ws C T N, w ∈ tT) (ty0 : Nat → FieldType) (hty : ∀ k, k < N → parseFieldDescriptor (T k).2.2.1 = some (ty0 k)) (hnm : ∀ a, a < N → ∀ b, b < N → a ≠ b → (T a).2.1 ≠ (T b).2.1) (hin2 : meth.name = "<init>") (hP : va_P D vwCl (ws ++ (a, .inr (ci, fs)) :: y) H) (hD : va_D A (ws ++ (a, .inr (ci, fs)) :: y)) (hS : va_S A H0 H locs) (hc : vwCl[ci]? = some (C, T, N)) (k : Nat) (hk : k < N) (hlink : Cond.fieldLink own index C (T k).2.1 (T k).2.2.1 ∈ tT) (hC : (T k).1 = C) (hfin : (T k).2.2.2 = true) (hdecl : (T k).1 = own) {ty : FieldType} {v : Value} (hd : parseFieldDescriptor (T k).2.2.1 = some ty) (hn : narrow ty v = v) (hfit : fits ty v = true) (hl : k < fs.length) (hdg : decode cc pc = .ok (.putfield index, 3))
    (kk : ∀ (H1 : Heap) (locs1 : List Loc), va_P D vwCl (ws ++ (a, .inr (ci, fs.set k v)) :: y) H1 → va_D A (ws ++ (a, .inr (ci, fs.set k v)) :: y) → va_S A H0 H1 locs1 → W p l e Rm s m args below meth c H1 locs1 cells slots Q (F0 m (pc + 3) ls rest)) : W p l e Rm s m args below meth c H locs cells slots Q (F0 m pc ls (v :: .ref a :: rest)) := by
  refine va_putF (ty := ty) C0.1 C0.2.1 C0.2.2.2.1 hin ty0 hty hnm C0.2.2.1 C0.2.2.2.2.1 hP hD hS ws.length (at_len _ _ _) hc k hk (C0.2.2.2.1 _ hlink) (fun _ h => by rw [← hC]; exact h) hfin hin2 hdecl hd hn hfit hl hdg (fun H1 locs1 h1 h2 h3 => ?_)
  rw [set_len] at h1 h2
  exact kk H1 locs1 h1 h2 h3
theorem pf_n {C : String} {T : u_T} {N ci index a : Nat} {fs : List Value} (C0 : cx own D K p s m args c cc) (hin : ∀ w ∈ u_ws C T N, w ∈ tT) (ty0 : Nat → FieldType) (hty : ∀ k, k < N → parseFieldDescriptor (T k).2.2.1 = some (ty0 k)) (hnm : ∀ a, a < N → ∀ b, b < N → a ≠ b → (T a).2.1 ≠ (T b).2.1) (hP : va_P D vwCl (ws ++ (a, .inr (ci, fs)) :: y) H) (hD : va_D A (ws ++ (a, .inr (ci, fs)) :: y)) (hS : va_S A H0 H locs) (hc : vwCl[ci]? = some (C, T, N)) (k : Nat) (hk : k < N) (hlink : Cond.fieldLink own index C (T k).2.1 (T k).2.2.1 ∈ tT) (hC : (T k).1 = C) (hfin : (T k).2.2.2 = false) {ty : FieldType} {v : Value} (hd : parseFieldDescriptor (T k).2.2.1 = some ty) (hn : narrow ty v = v) (hfit : fits ty v = true) (hl : k < fs.length) (hdg : decode cc pc = .ok (.putfield index, 3))
    (kk : ∀ (H1 : Heap) (locs1 : List Loc), va_P D vwCl (ws ++ (a, .inr (ci, fs.set k v)) :: y) H1 → va_D A (ws ++ (a, .inr (ci, fs.set k v)) :: y) → va_S A H0 H1 locs1 → W p l e Rm s m args below meth c H1 locs1 cells slots Q (F0 m (pc + 3) ls rest)) : W p l e Rm s m args below meth c H locs cells slots Q (F0 m pc ls (v :: .ref a :: rest)) := by
  refine va_put (ty := ty) C0.1 C0.2.1 C0.2.2.2.1 hin ty0 hty hnm C0.2.2.1 C0.2.2.2.2.1 hP hD hS ws.length (at_len _ _ _) hc k hk (C0.2.2.2.1 _ hlink) (fun _ h => by rw [← hC]; exact h) hfin hd hn hfit hl hdg (fun H1 locs1 h1 h2 h3 => ?_)
  rw [set_len] at h1 h2
  exact kk H1 locs1 h1 h2 h3
end PFC
section CTOR
variable {D : va_G} {K : Nat → ClassId} {H : Heap} {A : Nat → Prop} {R : va_W} {o : Nat → Nat} {ad : Nat → Nat × Nat × Nat} {va fl af : Nat → Int64} {bl : Nat → Bool} {n tc sc : Nat} {T S : Nat → Bool} {us : Nat → Nat} {ps : Nat → Nat → Nat} {am : Nat → Nat → Int64} {ws : va_W} {h0 : Nat}
set_option maxHeartbeats 1000000 in
set_option maxRecDepth 100000 in
theorem cI_init (l : Launch) (hP : va_P D vwCl (ws ++ [(h0, .inr (ciI, [.null, .null, .int (nI 0), .int (bI false), .int (bI false)]))]) H) (hD : va_D A (ws ++ [(h0, .inr (ciI, [.null, .null, .int (nI 0), .int (bI false), .int (bI false)]))])) (hA : ∀ q, H.size ≤ q → A q)  : Met l yX0_init (tC yX0_init cX0_init 1 none) (rmK 1 2 32) (kP D K H [.ref h0]) (qV D A (fun u : (Nat × Nat) => True) (fun u : (Nat × Nat) => ws ++ [i_ob (h0, u.1, u.2) true false 0, i_pc K (h0, u.1, u.2) (fun _ => 0), i_ac K (h0, u.1, u.2) (fun _ => 0)])) 2 32 A := by
  refine Met.ofW (cc := cX0_init) (maxL := 1) (ret := none) (by decide) rfl ?_
  intro p e s m args below meth c s₁ B hml hv
  obtain ⟨rfl, hH, hK, hN, hO⟩ := hv
  have hx := B.exec
  have hb := B.bytes
  have hr := B.returns
  have hts : ∀ w ∈ tT, w.before _ s = true := fun w h => atoms_spec (ws := tC yX0_init cX0_init 1 none) B.pre w (List.mem_cons_of_mem _ h)
  have hown : s.vm.findClass RX0 = some m.cls := findClass_of_methodNamed B.named
  have hlocks := B.notSynchronized
  have C : cx RX0 D K p s m _ c cX0_init := ⟨hx, hb, hown, hts, hK, hN, hO⟩
  have hR : rmOk (headSpec (tC yX0_init cX0_init 1 none) (rmK 1 2 32)).room 1 2 32 := ⟨Nat.le_refl _, Nat.le_refl _, Nat.le_refl _, Nat.le_refl _⟩
  subst hH
  have hS : va_S A s.heap s.heap [] := va_S.rf
  have hl := lv_entry ([.ref h0]) (n := 1) (Nat.le_of_ble_eq_true rfl)
  rw [lg_entry_eq]
  generalize (lg_sl ([.ref h0]) ++ List.replicate (1 - (lg_sl ([.ref h0])).length) Slot.unset).toArray = ls at hl ⊢
  have hl : lv_has ls 1 [(0, .ref h0)] := hl
  have hin2 : meth.name = "<init>" := (name_of_methodNamed B.named B.method).1
  refine lv_aload_n hx hb dX0_init_0 rfl (lv_at hl 0 rfl) ?_
  refine W.objInit hx hb hown (hts _ (by decide +kernel : Cond.methodLink RX0 3 objectInit ∈ tT)) (hts _ (by decide +kernel : Cond.instanceMethod objectInit ∈ tT)) (hts _ (by decide +kernel : Cond.code objectInit ⟨#[0xb1]⟩ 1 none ∈ tT)) rfl (by rw [hml]; exact hl.1) rfl dX0_init_1 (Nat.le_of_ble_eq_true rfl) (Nat.le_of_ble_eq_true rfl) ?_
  refine W.eq (g2 := F0 m 4 ls []) rfl ?_
  refine lv_aload_n hx hb dX0_init_4 rfl (lv_at hl 0 rfl) ?_
  refine lv_bipush (v := nI 16) hx hb dX0_init_5 (by decide) ?_
  refine nwI C hP hD hS hA (by decide) (Nat.le_of_ble_eq_true rfl) (Nat.le_of_ble_eq_true rfl) dX0_init_7 (fun q1 H hP hD hS => ?_)
  have hP : va_P D vwCl (ws ++ [(h0, .inr (ciI, [.null, .null, .int (nI 0), .int (bI false), .int (bI false)])), (q1, .inl (K 1, 16, .inl (fun _ => nI 0)))]) H := by rw [List.append_assoc] at hP; exact hP
  have hD : va_D A (ws ++ [(h0, .inr (ciI, [.null, .null, .int (nI 0), .int (bI false), .int (bI false)])), (q1, .inl (K 1, 16, .inl (fun _ => nI 0)))]) := by rw [List.append_assoc] at hD; exact hD
  refine pf_ (C := RX0) (T := TX0) (N := 5) (ci := ciI) (ty := .array .int) C in_I tyX0 tyX0_ok nmX0 hin2 hP hD hS rfl 0 (by decide) (by decide +kernel : Cond.fieldLink RX0 9 RX0 (TX0 0).2.1 (TX0 0).2.2.1 ∈ tT) rfl rfl rfl (by decide +kernel) rfl rfl (Nat.le_of_ble_eq_true rfl) dX0_init_9 (fun H locs hP hD hS => ?_)
  have hP : va_P D vwCl (ws ++ [(h0, .inr (ciI, [.ref q1, .null, .int (nI 0), .int (bI false), .int (bI false)])), (q1, .inl (K 1, 16, .inl (fun _ => nI 0)))]) H := hP
  have hD : va_D A (ws ++ [(h0, .inr (ciI, [.ref q1, .null, .int (nI 0), .int (bI false), .int (bI false)])), (q1, .inl (K 1, 16, .inl (fun _ => nI 0)))]) := hD
  refine lv_aload_n hx hb dX0_init_12 rfl (lv_at hl 0 rfl) ?_
  refine lv_bipush (v := nI 16) hx hb dX0_init_13 (by decide) ?_
  refine nwJ C hP hD hS hA (by decide) (Nat.le_of_ble_eq_true rfl) (Nat.le_of_ble_eq_true rfl) dX0_init_15 (fun q2 H hP hD hS => ?_)
  have hP : va_P D vwCl (ws ++ [(h0, .inr (ciI, [.ref q1, .null, .int (nI 0), .int (bI false), .int (bI false)])), (q1, .inl (K 1, 16, .inl (fun _ => nI 0))), (q2, .inl (K 0, 16, .inr (.inl (fun _ => 0))))]) H := by rw [List.append_assoc] at hP; exact hP
  have hD : va_D A (ws ++ [(h0, .inr (ciI, [.ref q1, .null, .int (nI 0), .int (bI false), .int (bI false)])), (q1, .inl (K 1, 16, .inl (fun _ => nI 0))), (q2, .inl (K 0, 16, .inr (.inl (fun _ => 0))))]) := by rw [List.append_assoc] at hD; exact hD
  refine pf_ (C := RX0) (T := TX0) (N := 5) (ci := ciI) (ty := .array .long) C in_I tyX0 tyX0_ok nmX0 hin2 hP hD hS rfl 1 (by decide) (by decide +kernel : Cond.fieldLink RX0 15 RX0 (TX0 1).2.1 (TX0 1).2.2.1 ∈ tT) rfl rfl rfl (by decide +kernel) rfl rfl (Nat.le_of_ble_eq_true rfl) dX0_init_17 (fun H locs hP hD hS => ?_)
  have hP : va_P D vwCl (ws ++ [(h0, .inr (ciI, [.ref q1, .ref q2, .int (nI 0), .int (bI false), .int (bI false)])), (q1, .inl (K 1, 16, .inl (fun _ => nI 0))), (q2, .inl (K 0, 16, .inr (.inl (fun _ => 0))))]) H := hP
  have hD : va_D A (ws ++ [(h0, .inr (ciI, [.ref q1, .ref q2, .int (nI 0), .int (bI false), .int (bI false)])), (q1, .inl (K 1, 16, .inl (fun _ => nI 0))), (q2, .inl (K 0, 16, .inr (.inl (fun _ => 0))))]) := hD
  refine lv_aload_n hx hb dX0_init_20 rfl (lv_at hl 0 rfl) ?_
  refine lv_iconst (v := nI 1) hx hb dX0_init_21 (by decide) ?_
  refine tp_i (y := bI true) (b1 rfl) ?_
  refine pf_n (C := RX0) (T := TX0) (N := 5) (ci := ciI) (ty := .boolean) C in_I tyX0 tyX0_ok nmX0 hP hD hS rfl 3 (by decide) (by decide +kernel : Cond.fieldLink RX0 19 RX0 (TX0 3).2.1 (TX0 3).2.2.1 ∈ tT) rfl rfl (by decide +kernel) (bI_narrow true) (bI_fits true) (Nat.le_of_ble_eq_true rfl) dX0_init_22 (fun H locs hP hD hS => ?_)
  have hP : va_P D vwCl (ws ++ [(h0, .inr (ciI, [.ref q1, .ref q2, .int (nI 0), .int (bI true), .int (bI false)])), (q1, .inl (K 1, 16, .inl (fun _ => nI 0))), (q2, .inl (K 0, 16, .inr (.inl (fun _ => 0))))]) H := hP
  have hD : va_D A (ws ++ [(h0, .inr (ciI, [.ref q1, .ref q2, .int (nI 0), .int (bI true), .int (bI false)])), (q1, .inl (K 1, 16, .inl (fun _ => nI 0))), (q2, .inl (K 0, 16, .inr (.inl (fun _ => 0))))]) := hD
  exact W.vret hx hb hr (fun t ht _ => ⟨⟨(q1, q2), rfl, trivial, by rw [ht]; exact hP, hD⟩, hS.F ht⟩) hS.2.2 dX0_init_25
set_option maxHeartbeats 1000000 in
set_option maxRecDepth 100000 in
theorem cD_init (l : Launch) (hP : va_P D vwCl (ws ++ [(h0, .inr (ciD, [.null, .null, .null, .int (nI 0), .int (nI 0), .int (nI 0), .null, .null]))]) H) (hD : va_D A (ws ++ [(h0, .inr (ciD, [.null, .null, .null, .int (nI 0), .int (nI 0), .int (nI 0), .null, .null]))])) (hA : ∀ q, H.size ≤ q → A q)  : Met l yX1_init (tC yX1_init cX1_init 1 none) (rmK 1 5 1400) (kP D K H [.ref h0]) (qV D A (fun u : (Nat × Nat × Nat × Nat × Nat) => True) (fun u : (Nat × Nat × Nat × Nat × Nat) => ws ++ [(h0, .inr (ciD, [.ref u.1, .ref u.2.1, .ref u.2.2.1, .int (nI 0), .int (nI 0), .int (nI 0), .ref u.2.2.2.1, .ref u.2.2.2.2])), (u.1, .inl (K 0, 300, .inr (.inl (fun _ => 0)))), (u.2.1, .inl (K 0, 300, .inr (.inl (fun _ => 0)))), (u.2.2.1, .inl (K 3, 200, .inr (.inr (.inr (.inr (fun _ => none)))))), (u.2.2.2.1, .inl (K 0, 300, .inr (.inl (fun _ => 0)))), (u.2.2.2.2, .inl (K 2, 300, .inl (fun _ => bI false)))])) 5 1400 A := by
  refine Met.ofW (cc := cX1_init) (maxL := 1) (ret := none) (by decide) rfl ?_
  intro p e s m args below meth c s₁ B hml hv
  obtain ⟨rfl, hH, hK, hN, hO⟩ := hv
  have hx := B.exec
  have hb := B.bytes
  have hr := B.returns
  have hts : ∀ w ∈ tT, w.before _ s = true := fun w h => atoms_spec (ws := tC yX1_init cX1_init 1 none) B.pre w (List.mem_cons_of_mem _ h)
  have hown : s.vm.findClass RX1 = some m.cls := findClass_of_methodNamed B.named
  have hlocks := B.notSynchronized
  have C : cx RX1 D K p s m _ c cX1_init := ⟨hx, hb, hown, hts, hK, hN, hO⟩
  have hR : rmOk (headSpec (tC yX1_init cX1_init 1 none) (rmK 1 5 1400)).room 1 5 1400 := ⟨Nat.le_refl _, Nat.le_refl _, Nat.le_refl _, Nat.le_refl _⟩
  subst hH
  have hS : va_S A s.heap s.heap [] := va_S.rf
  have hl := lv_entry ([.ref h0]) (n := 1) (Nat.le_of_ble_eq_true rfl)
  rw [lg_entry_eq]
  generalize (lg_sl ([.ref h0]) ++ List.replicate (1 - (lg_sl ([.ref h0])).length) Slot.unset).toArray = ls at hl ⊢
  have hl : lv_has ls 1 [(0, .ref h0)] := hl
  have hin2 : meth.name = "<init>" := (name_of_methodNamed B.named B.method).1
  refine lv_aload_n hx hb dX1_init_0 rfl (lv_at hl 0 rfl) ?_
  refine W.objInit hx hb hown (hts _ (by decide +kernel : Cond.methodLink RX1 1 objectInit ∈ tT)) (hts _ (by decide +kernel : Cond.instanceMethod objectInit ∈ tT)) (hts _ (by decide +kernel : Cond.code objectInit ⟨#[0xb1]⟩ 1 none ∈ tT)) rfl (by rw [hml]; exact hl.1) rfl dX1_init_1 (Nat.le_of_ble_eq_true rfl) (Nat.le_of_ble_eq_true rfl) ?_
  refine W.eq (g2 := F0 m 4 ls []) rfl ?_
  refine lv_aload_n hx hb dX1_init_4 rfl (lv_at hl 0 rfl) ?_
  refine lv_sipush (v := nI 300) hx hb dX1_init_5 (by decide) ?_
  refine nwJ C hP hD hS hA (by decide) (Nat.le_of_ble_eq_true rfl) (Nat.le_of_ble_eq_true rfl) dX1_init_8 (fun q1 H hP hD hS => ?_)
  have hP : va_P D vwCl (ws ++ [(h0, .inr (ciD, [.null, .null, .null, .int (nI 0), .int (nI 0), .int (nI 0), .null, .null])), (q1, .inl (K 0, 300, .inr (.inl (fun _ => 0))))]) H := by rw [List.append_assoc] at hP; exact hP
  have hD : va_D A (ws ++ [(h0, .inr (ciD, [.null, .null, .null, .int (nI 0), .int (nI 0), .int (nI 0), .null, .null])), (q1, .inl (K 0, 300, .inr (.inl (fun _ => 0))))]) := by rw [List.append_assoc] at hD; exact hD
  refine pf_ (C := RX1) (T := TX1) (N := 8) (ci := ciD) (ty := .array .long) C in_D tyX1 tyX1_ok nmX1 hin2 hP hD hS rfl 0 (by decide) (by decide +kernel : Cond.fieldLink RX1 9 RX1 (TX1 0).2.1 (TX1 0).2.2.1 ∈ tT) rfl rfl rfl (by decide +kernel) rfl rfl (Nat.le_of_ble_eq_true rfl) dX1_init_10 (fun H locs hP hD hS => ?_)
  have hP : va_P D vwCl (ws ++ [(h0, .inr (ciD, [.ref q1, .null, .null, .int (nI 0), .int (nI 0), .int (nI 0), .null, .null])), (q1, .inl (K 0, 300, .inr (.inl (fun _ => 0))))]) H := hP
  have hD : va_D A (ws ++ [(h0, .inr (ciD, [.ref q1, .null, .null, .int (nI 0), .int (nI 0), .int (nI 0), .null, .null])), (q1, .inl (K 0, 300, .inr (.inl (fun _ => 0))))]) := hD
  refine lv_aload_n hx hb dX1_init_13 rfl (lv_at hl 0 rfl) ?_
  refine lv_sipush (v := nI 300) hx hb dX1_init_14 (by decide) ?_
  refine nwJ C hP hD hS hA (by decide) (Nat.le_of_ble_eq_true rfl) (Nat.le_of_ble_eq_true rfl) dX1_init_17 (fun q2 H hP hD hS => ?_)
  have hP : va_P D vwCl (ws ++ [(h0, .inr (ciD, [.ref q1, .null, .null, .int (nI 0), .int (nI 0), .int (nI 0), .null, .null])), (q1, .inl (K 0, 300, .inr (.inl (fun _ => 0)))), (q2, .inl (K 0, 300, .inr (.inl (fun _ => 0))))]) H := by rw [List.append_assoc] at hP; exact hP
  have hD : va_D A (ws ++ [(h0, .inr (ciD, [.ref q1, .null, .null, .int (nI 0), .int (nI 0), .int (nI 0), .null, .null])), (q1, .inl (K 0, 300, .inr (.inl (fun _ => 0)))), (q2, .inl (K 0, 300, .inr (.inl (fun _ => 0))))]) := by rw [List.append_assoc] at hD; exact hD
  refine pf_ (C := RX1) (T := TX1) (N := 8) (ci := ciD) (ty := .array .long) C in_D tyX1 tyX1_ok nmX1 hin2 hP hD hS rfl 1 (by decide) (by decide +kernel : Cond.fieldLink RX1 13 RX1 (TX1 1).2.1 (TX1 1).2.2.1 ∈ tT) rfl rfl rfl (by decide +kernel) rfl rfl (Nat.le_of_ble_eq_true rfl) dX1_init_19 (fun H locs hP hD hS => ?_)
  have hP : va_P D vwCl (ws ++ [(h0, .inr (ciD, [.ref q1, .ref q2, .null, .int (nI 0), .int (nI 0), .int (nI 0), .null, .null])), (q1, .inl (K 0, 300, .inr (.inl (fun _ => 0)))), (q2, .inl (K 0, 300, .inr (.inl (fun _ => 0))))]) H := hP
  have hD : va_D A (ws ++ [(h0, .inr (ciD, [.ref q1, .ref q2, .null, .int (nI 0), .int (nI 0), .int (nI 0), .null, .null])), (q1, .inl (K 0, 300, .inr (.inl (fun _ => 0)))), (q2, .inl (K 0, 300, .inr (.inl (fun _ => 0))))]) := hD
  refine lv_aload_n hx hb dX1_init_22 rfl (lv_at hl 0 rfl) ?_
  refine lv_sipush (v := nI 200) hx hb dX1_init_23 (by decide) ?_
  refine nwQ C (by decide +kernel : Cond.classLink RX1 16 RIt ∈ tT) hP hD hS hA (by decide) (Nat.le_of_ble_eq_true rfl) (Nat.le_of_ble_eq_true rfl) dX1_init_26 (fun q3 H hP hD hS => ?_)
  have hP : va_P D vwCl (ws ++ [(h0, .inr (ciD, [.ref q1, .ref q2, .null, .int (nI 0), .int (nI 0), .int (nI 0), .null, .null])), (q1, .inl (K 0, 300, .inr (.inl (fun _ => 0)))), (q2, .inl (K 0, 300, .inr (.inl (fun _ => 0)))), (q3, .inl (K 3, 200, .inr (.inr (.inr (.inr (fun _ => none))))))]) H := by rw [List.append_assoc] at hP; exact hP
  have hD : va_D A (ws ++ [(h0, .inr (ciD, [.ref q1, .ref q2, .null, .int (nI 0), .int (nI 0), .int (nI 0), .null, .null])), (q1, .inl (K 0, 300, .inr (.inl (fun _ => 0)))), (q2, .inl (K 0, 300, .inr (.inl (fun _ => 0)))), (q3, .inl (K 3, 200, .inr (.inr (.inr (.inr (fun _ => none))))))]) := by rw [List.append_assoc] at hD; exact hD
  refine pf_ (C := RX1) (T := TX1) (N := 8) (ci := ciD) (ty := .array (.object "GridDesk$Item")) C in_D tyX1 tyX1_ok nmX1 hin2 hP hD hS rfl 2 (by decide) (by decide +kernel : Cond.fieldLink RX1 18 RX1 (TX1 2).2.1 (TX1 2).2.2.1 ∈ tT) rfl rfl rfl (by decide +kernel) rfl rfl (Nat.le_of_ble_eq_true rfl) dX1_init_29 (fun H locs hP hD hS => ?_)
  have hP : va_P D vwCl (ws ++ [(h0, .inr (ciD, [.ref q1, .ref q2, .ref q3, .int (nI 0), .int (nI 0), .int (nI 0), .null, .null])), (q1, .inl (K 0, 300, .inr (.inl (fun _ => 0)))), (q2, .inl (K 0, 300, .inr (.inl (fun _ => 0)))), (q3, .inl (K 3, 200, .inr (.inr (.inr (.inr (fun _ => none))))))]) H := hP
  have hD : va_D A (ws ++ [(h0, .inr (ciD, [.ref q1, .ref q2, .ref q3, .int (nI 0), .int (nI 0), .int (nI 0), .null, .null])), (q1, .inl (K 0, 300, .inr (.inl (fun _ => 0)))), (q2, .inl (K 0, 300, .inr (.inl (fun _ => 0)))), (q3, .inl (K 3, 200, .inr (.inr (.inr (.inr (fun _ => none))))))]) := hD
  refine lv_aload_n hx hb dX1_init_32 rfl (lv_at hl 0 rfl) ?_
  refine lv_sipush (v := nI 300) hx hb dX1_init_33 (by decide) ?_
  refine nwJ C hP hD hS hA (by decide) (Nat.le_of_ble_eq_true rfl) (Nat.le_of_ble_eq_true rfl) dX1_init_36 (fun q4 H hP hD hS => ?_)
  have hP : va_P D vwCl (ws ++ [(h0, .inr (ciD, [.ref q1, .ref q2, .ref q3, .int (nI 0), .int (nI 0), .int (nI 0), .null, .null])), (q1, .inl (K 0, 300, .inr (.inl (fun _ => 0)))), (q2, .inl (K 0, 300, .inr (.inl (fun _ => 0)))), (q3, .inl (K 3, 200, .inr (.inr (.inr (.inr (fun _ => none)))))), (q4, .inl (K 0, 300, .inr (.inl (fun _ => 0))))]) H := by rw [List.append_assoc] at hP; exact hP
  have hD : va_D A (ws ++ [(h0, .inr (ciD, [.ref q1, .ref q2, .ref q3, .int (nI 0), .int (nI 0), .int (nI 0), .null, .null])), (q1, .inl (K 0, 300, .inr (.inl (fun _ => 0)))), (q2, .inl (K 0, 300, .inr (.inl (fun _ => 0)))), (q3, .inl (K 3, 200, .inr (.inr (.inr (.inr (fun _ => none)))))), (q4, .inl (K 0, 300, .inr (.inl (fun _ => 0))))]) := by rw [List.append_assoc] at hD; exact hD
  refine pf_ (C := RX1) (T := TX1) (N := 8) (ci := ciD) (ty := .array .long) C in_D tyX1 tyX1_ok nmX1 hin2 hP hD hS rfl 6 (by decide) (by decide +kernel : Cond.fieldLink RX1 22 RX1 (TX1 6).2.1 (TX1 6).2.2.1 ∈ tT) rfl rfl rfl (by decide +kernel) rfl rfl (Nat.le_of_ble_eq_true rfl) dX1_init_38 (fun H locs hP hD hS => ?_)
  have hP : va_P D vwCl (ws ++ [(h0, .inr (ciD, [.ref q1, .ref q2, .ref q3, .int (nI 0), .int (nI 0), .int (nI 0), .ref q4, .null])), (q1, .inl (K 0, 300, .inr (.inl (fun _ => 0)))), (q2, .inl (K 0, 300, .inr (.inl (fun _ => 0)))), (q3, .inl (K 3, 200, .inr (.inr (.inr (.inr (fun _ => none)))))), (q4, .inl (K 0, 300, .inr (.inl (fun _ => 0))))]) H := hP
  have hD : va_D A (ws ++ [(h0, .inr (ciD, [.ref q1, .ref q2, .ref q3, .int (nI 0), .int (nI 0), .int (nI 0), .ref q4, .null])), (q1, .inl (K 0, 300, .inr (.inl (fun _ => 0)))), (q2, .inl (K 0, 300, .inr (.inl (fun _ => 0)))), (q3, .inl (K 3, 200, .inr (.inr (.inr (.inr (fun _ => none)))))), (q4, .inl (K 0, 300, .inr (.inl (fun _ => 0))))]) := hD
  refine lv_aload_n hx hb dX1_init_41 rfl (lv_at hl 0 rfl) ?_
  refine lv_sipush (v := nI 300) hx hb dX1_init_42 (by decide) ?_
  refine nwZ C hP hD hS hA (by decide) (Nat.le_of_ble_eq_true rfl) (Nat.le_of_ble_eq_true rfl) dX1_init_45 (fun q5 H hP hD hS => ?_)
  have hP : va_P D vwCl (ws ++ [(h0, .inr (ciD, [.ref q1, .ref q2, .ref q3, .int (nI 0), .int (nI 0), .int (nI 0), .ref q4, .null])), (q1, .inl (K 0, 300, .inr (.inl (fun _ => 0)))), (q2, .inl (K 0, 300, .inr (.inl (fun _ => 0)))), (q3, .inl (K 3, 200, .inr (.inr (.inr (.inr (fun _ => none)))))), (q4, .inl (K 0, 300, .inr (.inl (fun _ => 0)))), (q5, .inl (K 2, 300, .inl (fun _ => bI false)))]) H := by rw [List.append_assoc] at hP; exact hP
  have hD : va_D A (ws ++ [(h0, .inr (ciD, [.ref q1, .ref q2, .ref q3, .int (nI 0), .int (nI 0), .int (nI 0), .ref q4, .null])), (q1, .inl (K 0, 300, .inr (.inl (fun _ => 0)))), (q2, .inl (K 0, 300, .inr (.inl (fun _ => 0)))), (q3, .inl (K 3, 200, .inr (.inr (.inr (.inr (fun _ => none)))))), (q4, .inl (K 0, 300, .inr (.inl (fun _ => 0)))), (q5, .inl (K 2, 300, .inl (fun _ => bI false)))]) := by rw [List.append_assoc] at hD; exact hD
  refine pf_ (C := RX1) (T := TX1) (N := 8) (ci := ciD) (ty := .array .boolean) C in_D tyX1 tyX1_ok nmX1 hin2 hP hD hS rfl 7 (by decide) (by decide +kernel : Cond.fieldLink RX1 25 RX1 (TX1 7).2.1 (TX1 7).2.2.1 ∈ tT) rfl rfl rfl (by decide +kernel) rfl rfl (Nat.le_of_ble_eq_true rfl) dX1_init_47 (fun H locs hP hD hS => ?_)
  have hP : va_P D vwCl (ws ++ [(h0, .inr (ciD, [.ref q1, .ref q2, .ref q3, .int (nI 0), .int (nI 0), .int (nI 0), .ref q4, .ref q5])), (q1, .inl (K 0, 300, .inr (.inl (fun _ => 0)))), (q2, .inl (K 0, 300, .inr (.inl (fun _ => 0)))), (q3, .inl (K 3, 200, .inr (.inr (.inr (.inr (fun _ => none)))))), (q4, .inl (K 0, 300, .inr (.inl (fun _ => 0)))), (q5, .inl (K 2, 300, .inl (fun _ => bI false)))]) H := hP
  have hD : va_D A (ws ++ [(h0, .inr (ciD, [.ref q1, .ref q2, .ref q3, .int (nI 0), .int (nI 0), .int (nI 0), .ref q4, .ref q5])), (q1, .inl (K 0, 300, .inr (.inl (fun _ => 0)))), (q2, .inl (K 0, 300, .inr (.inl (fun _ => 0)))), (q3, .inl (K 3, 200, .inr (.inr (.inr (.inr (fun _ => none)))))), (q4, .inl (K 0, 300, .inr (.inl (fun _ => 0)))), (q5, .inl (K 2, 300, .inl (fun _ => bI false)))]) := hD
  exact W.vret hx hb hr (fun t ht _ => ⟨⟨(q1, q2, q3, q4, q5), rfl, trivial, by rw [ht]; exact hP, hD⟩, hS.F ht⟩) hS.2.2 dX1_init_50
set_option maxHeartbeats 1000000 in
set_option maxRecDepth 100000 in
theorem cM_init (l : Launch) (hP : va_P D vwCl (ws ++ [(h0, .inr (ciM, [.null, .null, .int (nI 0), .null, .null, .null, .null, .null]))]) H) (hD : va_D A (ws ++ [(h0, .inr (ciM, [.null, .null, .int (nI 0), .null, .null, .null, .null, .null]))])) (hA : ∀ q, H.size ≤ q → A q)  : Met l yX2_init (tC yX2_init cX2_init 1 none) (rmK 1 7 7600) (kP D K H [.ref h0]) (qV D A (fun u : (Nat × Nat × Nat × Nat × Nat × Nat × Nat) => True) (fun u : (Nat × Nat × Nat × Nat × Nat × Nat × Nat) => ws ++ [(h0, .inr (ciM, [.ref u.1, .ref u.2.1, .int (nI 0), .ref u.2.2.1, .ref u.2.2.2.1, .ref u.2.2.2.2.1, .ref u.2.2.2.2.2.1, .ref u.2.2.2.2.2.2])), (u.1, .inl (K 0, 300, .inr (.inl (fun _ => 0)))), (u.2.1, .inl (K 0, 300, .inr (.inl (fun _ => 0)))), (u.2.2.1, .inl (K 2, 200, .inl (fun _ => bI false))), (u.2.2.2.1, .inl (K 2, 200, .inl (fun _ => bI false))), (u.2.2.2.2.1, .inl (K 1, 200, .inl (fun _ => nI 0))), (u.2.2.2.2.2.1, .inl (K 1, 3200, .inl (fun _ => nI 0))), (u.2.2.2.2.2.2, .inl (K 0, 3200, .inr (.inl (fun _ => 0))))])) 7 7600 A := by
  refine Met.ofW (cc := cX2_init) (maxL := 1) (ret := none) (by decide) rfl ?_
  intro p e s m args below meth c s₁ B hml hv
  obtain ⟨rfl, hH, hK, hN, hO⟩ := hv
  have hx := B.exec
  have hb := B.bytes
  have hr := B.returns
  have hts : ∀ w ∈ tT, w.before _ s = true := fun w h => atoms_spec (ws := tC yX2_init cX2_init 1 none) B.pre w (List.mem_cons_of_mem _ h)
  have hown : s.vm.findClass RX2 = some m.cls := findClass_of_methodNamed B.named
  have hlocks := B.notSynchronized
  have C : cx RX2 D K p s m _ c cX2_init := ⟨hx, hb, hown, hts, hK, hN, hO⟩
  have hR : rmOk (headSpec (tC yX2_init cX2_init 1 none) (rmK 1 7 7600)).room 1 7 7600 := ⟨Nat.le_refl _, Nat.le_refl _, Nat.le_refl _, Nat.le_refl _⟩
  subst hH
  have hS : va_S A s.heap s.heap [] := va_S.rf
  have hl := lv_entry ([.ref h0]) (n := 1) (Nat.le_of_ble_eq_true rfl)
  rw [lg_entry_eq]
  generalize (lg_sl ([.ref h0]) ++ List.replicate (1 - (lg_sl ([.ref h0])).length) Slot.unset).toArray = ls at hl ⊢
  have hl : lv_has ls 1 [(0, .ref h0)] := hl
  have hin2 : meth.name = "<init>" := (name_of_methodNamed B.named B.method).1
  refine lv_aload_n hx hb dX2_init_0 rfl (lv_at hl 0 rfl) ?_
  refine W.objInit hx hb hown (hts _ (by decide +kernel : Cond.methodLink RX2 1 objectInit ∈ tT)) (hts _ (by decide +kernel : Cond.instanceMethod objectInit ∈ tT)) (hts _ (by decide +kernel : Cond.code objectInit ⟨#[0xb1]⟩ 1 none ∈ tT)) rfl (by rw [hml]; exact hl.1) rfl dX2_init_1 (Nat.le_of_ble_eq_true rfl) (Nat.le_of_ble_eq_true rfl) ?_
  refine W.eq (g2 := F0 m 4 ls []) rfl ?_
  refine lv_aload_n hx hb dX2_init_4 rfl (lv_at hl 0 rfl) ?_
  refine lv_sipush (v := nI 300) hx hb dX2_init_5 (by decide) ?_
  refine nwJ C hP hD hS hA (by decide) (Nat.le_of_ble_eq_true rfl) (Nat.le_of_ble_eq_true rfl) dX2_init_8 (fun q1 H hP hD hS => ?_)
  have hP : va_P D vwCl (ws ++ [(h0, .inr (ciM, [.null, .null, .int (nI 0), .null, .null, .null, .null, .null])), (q1, .inl (K 0, 300, .inr (.inl (fun _ => 0))))]) H := by rw [List.append_assoc] at hP; exact hP
  have hD : va_D A (ws ++ [(h0, .inr (ciM, [.null, .null, .int (nI 0), .null, .null, .null, .null, .null])), (q1, .inl (K 0, 300, .inr (.inl (fun _ => 0))))]) := by rw [List.append_assoc] at hD; exact hD
  refine pf_ (C := RX2) (T := TX2) (N := 8) (ci := ciM) (ty := .array .long) C in_M tyX2 tyX2_ok nmX2 hin2 hP hD hS rfl 0 (by decide) (by decide +kernel : Cond.fieldLink RX2 7 RX2 (TX2 0).2.1 (TX2 0).2.2.1 ∈ tT) rfl rfl rfl (by decide +kernel) rfl rfl (Nat.le_of_ble_eq_true rfl) dX2_init_10 (fun H locs hP hD hS => ?_)
  have hP : va_P D vwCl (ws ++ [(h0, .inr (ciM, [.ref q1, .null, .int (nI 0), .null, .null, .null, .null, .null])), (q1, .inl (K 0, 300, .inr (.inl (fun _ => 0))))]) H := hP
  have hD : va_D A (ws ++ [(h0, .inr (ciM, [.ref q1, .null, .int (nI 0), .null, .null, .null, .null, .null])), (q1, .inl (K 0, 300, .inr (.inl (fun _ => 0))))]) := hD
  refine lv_aload_n hx hb dX2_init_13 rfl (lv_at hl 0 rfl) ?_
  refine lv_sipush (v := nI 300) hx hb dX2_init_14 (by decide) ?_
  refine nwJ C hP hD hS hA (by decide) (Nat.le_of_ble_eq_true rfl) (Nat.le_of_ble_eq_true rfl) dX2_init_17 (fun q2 H hP hD hS => ?_)
  have hP : va_P D vwCl (ws ++ [(h0, .inr (ciM, [.ref q1, .null, .int (nI 0), .null, .null, .null, .null, .null])), (q1, .inl (K 0, 300, .inr (.inl (fun _ => 0)))), (q2, .inl (K 0, 300, .inr (.inl (fun _ => 0))))]) H := by rw [List.append_assoc] at hP; exact hP
  have hD : va_D A (ws ++ [(h0, .inr (ciM, [.ref q1, .null, .int (nI 0), .null, .null, .null, .null, .null])), (q1, .inl (K 0, 300, .inr (.inl (fun _ => 0)))), (q2, .inl (K 0, 300, .inr (.inl (fun _ => 0))))]) := by rw [List.append_assoc] at hD; exact hD
  refine pf_ (C := RX2) (T := TX2) (N := 8) (ci := ciM) (ty := .array .long) C in_M tyX2 tyX2_ok nmX2 hin2 hP hD hS rfl 1 (by decide) (by decide +kernel : Cond.fieldLink RX2 13 RX2 (TX2 1).2.1 (TX2 1).2.2.1 ∈ tT) rfl rfl rfl (by decide +kernel) rfl rfl (Nat.le_of_ble_eq_true rfl) dX2_init_19 (fun H locs hP hD hS => ?_)
  have hP : va_P D vwCl (ws ++ [(h0, .inr (ciM, [.ref q1, .ref q2, .int (nI 0), .null, .null, .null, .null, .null])), (q1, .inl (K 0, 300, .inr (.inl (fun _ => 0)))), (q2, .inl (K 0, 300, .inr (.inl (fun _ => 0))))]) H := hP
  have hD : va_D A (ws ++ [(h0, .inr (ciM, [.ref q1, .ref q2, .int (nI 0), .null, .null, .null, .null, .null])), (q1, .inl (K 0, 300, .inr (.inl (fun _ => 0)))), (q2, .inl (K 0, 300, .inr (.inl (fun _ => 0))))]) := hD
  refine lv_aload_n hx hb dX2_init_22 rfl (lv_at hl 0 rfl) ?_
  refine lv_sipush (v := nI 200) hx hb dX2_init_23 (by decide) ?_
  refine nwZ C hP hD hS hA (by decide) (Nat.le_of_ble_eq_true rfl) (Nat.le_of_ble_eq_true rfl) dX2_init_26 (fun q3 H hP hD hS => ?_)
  have hP : va_P D vwCl (ws ++ [(h0, .inr (ciM, [.ref q1, .ref q2, .int (nI 0), .null, .null, .null, .null, .null])), (q1, .inl (K 0, 300, .inr (.inl (fun _ => 0)))), (q2, .inl (K 0, 300, .inr (.inl (fun _ => 0)))), (q3, .inl (K 2, 200, .inl (fun _ => bI false)))]) H := by rw [List.append_assoc] at hP; exact hP
  have hD : va_D A (ws ++ [(h0, .inr (ciM, [.ref q1, .ref q2, .int (nI 0), .null, .null, .null, .null, .null])), (q1, .inl (K 0, 300, .inr (.inl (fun _ => 0)))), (q2, .inl (K 0, 300, .inr (.inl (fun _ => 0)))), (q3, .inl (K 2, 200, .inl (fun _ => bI false)))]) := by rw [List.append_assoc] at hD; exact hD
  refine pf_ (C := RX2) (T := TX2) (N := 8) (ci := ciM) (ty := .array .boolean) C in_M tyX2 tyX2_ok nmX2 hin2 hP hD hS rfl 3 (by decide) (by decide +kernel : Cond.fieldLink RX2 16 RX2 (TX2 3).2.1 (TX2 3).2.2.1 ∈ tT) rfl rfl rfl (by decide +kernel) rfl rfl (Nat.le_of_ble_eq_true rfl) dX2_init_28 (fun H locs hP hD hS => ?_)
  have hP : va_P D vwCl (ws ++ [(h0, .inr (ciM, [.ref q1, .ref q2, .int (nI 0), .ref q3, .null, .null, .null, .null])), (q1, .inl (K 0, 300, .inr (.inl (fun _ => 0)))), (q2, .inl (K 0, 300, .inr (.inl (fun _ => 0)))), (q3, .inl (K 2, 200, .inl (fun _ => bI false)))]) H := hP
  have hD : va_D A (ws ++ [(h0, .inr (ciM, [.ref q1, .ref q2, .int (nI 0), .ref q3, .null, .null, .null, .null])), (q1, .inl (K 0, 300, .inr (.inl (fun _ => 0)))), (q2, .inl (K 0, 300, .inr (.inl (fun _ => 0)))), (q3, .inl (K 2, 200, .inl (fun _ => bI false)))]) := hD
  refine lv_aload_n hx hb dX2_init_31 rfl (lv_at hl 0 rfl) ?_
  refine lv_sipush (v := nI 200) hx hb dX2_init_32 (by decide) ?_
  refine nwZ C hP hD hS hA (by decide) (Nat.le_of_ble_eq_true rfl) (Nat.le_of_ble_eq_true rfl) dX2_init_35 (fun q4 H hP hD hS => ?_)
  have hP : va_P D vwCl (ws ++ [(h0, .inr (ciM, [.ref q1, .ref q2, .int (nI 0), .ref q3, .null, .null, .null, .null])), (q1, .inl (K 0, 300, .inr (.inl (fun _ => 0)))), (q2, .inl (K 0, 300, .inr (.inl (fun _ => 0)))), (q3, .inl (K 2, 200, .inl (fun _ => bI false))), (q4, .inl (K 2, 200, .inl (fun _ => bI false)))]) H := by rw [List.append_assoc] at hP; exact hP
  have hD : va_D A (ws ++ [(h0, .inr (ciM, [.ref q1, .ref q2, .int (nI 0), .ref q3, .null, .null, .null, .null])), (q1, .inl (K 0, 300, .inr (.inl (fun _ => 0)))), (q2, .inl (K 0, 300, .inr (.inl (fun _ => 0)))), (q3, .inl (K 2, 200, .inl (fun _ => bI false))), (q4, .inl (K 2, 200, .inl (fun _ => bI false)))]) := by rw [List.append_assoc] at hD; exact hD
  refine pf_ (C := RX2) (T := TX2) (N := 8) (ci := ciM) (ty := .array .boolean) C in_M tyX2 tyX2_ok nmX2 hin2 hP hD hS rfl 4 (by decide) (by decide +kernel : Cond.fieldLink RX2 20 RX2 (TX2 4).2.1 (TX2 4).2.2.1 ∈ tT) rfl rfl rfl (by decide +kernel) rfl rfl (Nat.le_of_ble_eq_true rfl) dX2_init_37 (fun H locs hP hD hS => ?_)
  have hP : va_P D vwCl (ws ++ [(h0, .inr (ciM, [.ref q1, .ref q2, .int (nI 0), .ref q3, .ref q4, .null, .null, .null])), (q1, .inl (K 0, 300, .inr (.inl (fun _ => 0)))), (q2, .inl (K 0, 300, .inr (.inl (fun _ => 0)))), (q3, .inl (K 2, 200, .inl (fun _ => bI false))), (q4, .inl (K 2, 200, .inl (fun _ => bI false)))]) H := hP
  have hD : va_D A (ws ++ [(h0, .inr (ciM, [.ref q1, .ref q2, .int (nI 0), .ref q3, .ref q4, .null, .null, .null])), (q1, .inl (K 0, 300, .inr (.inl (fun _ => 0)))), (q2, .inl (K 0, 300, .inr (.inl (fun _ => 0)))), (q3, .inl (K 2, 200, .inl (fun _ => bI false))), (q4, .inl (K 2, 200, .inl (fun _ => bI false)))]) := hD
  refine lv_aload_n hx hb dX2_init_40 rfl (lv_at hl 0 rfl) ?_
  refine lv_sipush (v := nI 200) hx hb dX2_init_41 (by decide) ?_
  refine nwI C hP hD hS hA (by decide) (Nat.le_of_ble_eq_true rfl) (Nat.le_of_ble_eq_true rfl) dX2_init_44 (fun q5 H hP hD hS => ?_)
  have hP : va_P D vwCl (ws ++ [(h0, .inr (ciM, [.ref q1, .ref q2, .int (nI 0), .ref q3, .ref q4, .null, .null, .null])), (q1, .inl (K 0, 300, .inr (.inl (fun _ => 0)))), (q2, .inl (K 0, 300, .inr (.inl (fun _ => 0)))), (q3, .inl (K 2, 200, .inl (fun _ => bI false))), (q4, .inl (K 2, 200, .inl (fun _ => bI false))), (q5, .inl (K 1, 200, .inl (fun _ => nI 0)))]) H := by rw [List.append_assoc] at hP; exact hP
  have hD : va_D A (ws ++ [(h0, .inr (ciM, [.ref q1, .ref q2, .int (nI 0), .ref q3, .ref q4, .null, .null, .null])), (q1, .inl (K 0, 300, .inr (.inl (fun _ => 0)))), (q2, .inl (K 0, 300, .inr (.inl (fun _ => 0)))), (q3, .inl (K 2, 200, .inl (fun _ => bI false))), (q4, .inl (K 2, 200, .inl (fun _ => bI false))), (q5, .inl (K 1, 200, .inl (fun _ => nI 0)))]) := by rw [List.append_assoc] at hD; exact hD
  refine pf_ (C := RX2) (T := TX2) (N := 8) (ci := ciM) (ty := .array .int) C in_M tyX2 tyX2_ok nmX2 hin2 hP hD hS rfl 5 (by decide) (by decide +kernel : Cond.fieldLink RX2 23 RX2 (TX2 5).2.1 (TX2 5).2.2.1 ∈ tT) rfl rfl rfl (by decide +kernel) rfl rfl (Nat.le_of_ble_eq_true rfl) dX2_init_46 (fun H locs hP hD hS => ?_)
  have hP : va_P D vwCl (ws ++ [(h0, .inr (ciM, [.ref q1, .ref q2, .int (nI 0), .ref q3, .ref q4, .ref q5, .null, .null])), (q1, .inl (K 0, 300, .inr (.inl (fun _ => 0)))), (q2, .inl (K 0, 300, .inr (.inl (fun _ => 0)))), (q3, .inl (K 2, 200, .inl (fun _ => bI false))), (q4, .inl (K 2, 200, .inl (fun _ => bI false))), (q5, .inl (K 1, 200, .inl (fun _ => nI 0)))]) H := hP
  have hD : va_D A (ws ++ [(h0, .inr (ciM, [.ref q1, .ref q2, .int (nI 0), .ref q3, .ref q4, .ref q5, .null, .null])), (q1, .inl (K 0, 300, .inr (.inl (fun _ => 0)))), (q2, .inl (K 0, 300, .inr (.inl (fun _ => 0)))), (q3, .inl (K 2, 200, .inl (fun _ => bI false))), (q4, .inl (K 2, 200, .inl (fun _ => bI false))), (q5, .inl (K 1, 200, .inl (fun _ => nI 0)))]) := hD
  refine lv_aload_n hx hb dX2_init_49 rfl (lv_at hl 0 rfl) ?_
  refine lv_sipush (v := nI 3200) hx hb dX2_init_50 (by decide) ?_
  refine nwI C hP hD hS hA (by decide) (Nat.le_of_ble_eq_true rfl) (Nat.le_of_ble_eq_true rfl) dX2_init_53 (fun q6 H hP hD hS => ?_)
  have hP : va_P D vwCl (ws ++ [(h0, .inr (ciM, [.ref q1, .ref q2, .int (nI 0), .ref q3, .ref q4, .ref q5, .null, .null])), (q1, .inl (K 0, 300, .inr (.inl (fun _ => 0)))), (q2, .inl (K 0, 300, .inr (.inl (fun _ => 0)))), (q3, .inl (K 2, 200, .inl (fun _ => bI false))), (q4, .inl (K 2, 200, .inl (fun _ => bI false))), (q5, .inl (K 1, 200, .inl (fun _ => nI 0))), (q6, .inl (K 1, 3200, .inl (fun _ => nI 0)))]) H := by rw [List.append_assoc] at hP; exact hP
  have hD : va_D A (ws ++ [(h0, .inr (ciM, [.ref q1, .ref q2, .int (nI 0), .ref q3, .ref q4, .ref q5, .null, .null])), (q1, .inl (K 0, 300, .inr (.inl (fun _ => 0)))), (q2, .inl (K 0, 300, .inr (.inl (fun _ => 0)))), (q3, .inl (K 2, 200, .inl (fun _ => bI false))), (q4, .inl (K 2, 200, .inl (fun _ => bI false))), (q5, .inl (K 1, 200, .inl (fun _ => nI 0))), (q6, .inl (K 1, 3200, .inl (fun _ => nI 0)))]) := by rw [List.append_assoc] at hD; exact hD
  refine pf_ (C := RX2) (T := TX2) (N := 8) (ci := ciM) (ty := .array .int) C in_M tyX2 tyX2_ok nmX2 hin2 hP hD hS rfl 6 (by decide) (by decide +kernel : Cond.fieldLink RX2 27 RX2 (TX2 6).2.1 (TX2 6).2.2.1 ∈ tT) rfl rfl rfl (by decide +kernel) rfl rfl (Nat.le_of_ble_eq_true rfl) dX2_init_55 (fun H locs hP hD hS => ?_)
  have hP : va_P D vwCl (ws ++ [(h0, .inr (ciM, [.ref q1, .ref q2, .int (nI 0), .ref q3, .ref q4, .ref q5, .ref q6, .null])), (q1, .inl (K 0, 300, .inr (.inl (fun _ => 0)))), (q2, .inl (K 0, 300, .inr (.inl (fun _ => 0)))), (q3, .inl (K 2, 200, .inl (fun _ => bI false))), (q4, .inl (K 2, 200, .inl (fun _ => bI false))), (q5, .inl (K 1, 200, .inl (fun _ => nI 0))), (q6, .inl (K 1, 3200, .inl (fun _ => nI 0)))]) H := hP
  have hD : va_D A (ws ++ [(h0, .inr (ciM, [.ref q1, .ref q2, .int (nI 0), .ref q3, .ref q4, .ref q5, .ref q6, .null])), (q1, .inl (K 0, 300, .inr (.inl (fun _ => 0)))), (q2, .inl (K 0, 300, .inr (.inl (fun _ => 0)))), (q3, .inl (K 2, 200, .inl (fun _ => bI false))), (q4, .inl (K 2, 200, .inl (fun _ => bI false))), (q5, .inl (K 1, 200, .inl (fun _ => nI 0))), (q6, .inl (K 1, 3200, .inl (fun _ => nI 0)))]) := hD
  refine lv_aload_n hx hb dX2_init_58 rfl (lv_at hl 0 rfl) ?_
  refine lv_sipush (v := nI 3200) hx hb dX2_init_59 (by decide) ?_
  refine nwJ C hP hD hS hA (by decide) (Nat.le_of_ble_eq_true rfl) (Nat.le_of_ble_eq_true rfl) dX2_init_62 (fun q7 H hP hD hS => ?_)
  have hP : va_P D vwCl (ws ++ [(h0, .inr (ciM, [.ref q1, .ref q2, .int (nI 0), .ref q3, .ref q4, .ref q5, .ref q6, .null])), (q1, .inl (K 0, 300, .inr (.inl (fun _ => 0)))), (q2, .inl (K 0, 300, .inr (.inl (fun _ => 0)))), (q3, .inl (K 2, 200, .inl (fun _ => bI false))), (q4, .inl (K 2, 200, .inl (fun _ => bI false))), (q5, .inl (K 1, 200, .inl (fun _ => nI 0))), (q6, .inl (K 1, 3200, .inl (fun _ => nI 0))), (q7, .inl (K 0, 3200, .inr (.inl (fun _ => 0))))]) H := by rw [List.append_assoc] at hP; exact hP
  have hD : va_D A (ws ++ [(h0, .inr (ciM, [.ref q1, .ref q2, .int (nI 0), .ref q3, .ref q4, .ref q5, .ref q6, .null])), (q1, .inl (K 0, 300, .inr (.inl (fun _ => 0)))), (q2, .inl (K 0, 300, .inr (.inl (fun _ => 0)))), (q3, .inl (K 2, 200, .inl (fun _ => bI false))), (q4, .inl (K 2, 200, .inl (fun _ => bI false))), (q5, .inl (K 1, 200, .inl (fun _ => nI 0))), (q6, .inl (K 1, 3200, .inl (fun _ => nI 0))), (q7, .inl (K 0, 3200, .inr (.inl (fun _ => 0))))]) := by rw [List.append_assoc] at hD; exact hD
  refine pf_ (C := RX2) (T := TX2) (N := 8) (ci := ciM) (ty := .array .long) C in_M tyX2 tyX2_ok nmX2 hin2 hP hD hS rfl 7 (by decide) (by decide +kernel : Cond.fieldLink RX2 30 RX2 (TX2 7).2.1 (TX2 7).2.2.1 ∈ tT) rfl rfl rfl (by decide +kernel) rfl rfl (Nat.le_of_ble_eq_true rfl) dX2_init_64 (fun H locs hP hD hS => ?_)
  have hP : va_P D vwCl (ws ++ [(h0, .inr (ciM, [.ref q1, .ref q2, .int (nI 0), .ref q3, .ref q4, .ref q5, .ref q6, .ref q7])), (q1, .inl (K 0, 300, .inr (.inl (fun _ => 0)))), (q2, .inl (K 0, 300, .inr (.inl (fun _ => 0)))), (q3, .inl (K 2, 200, .inl (fun _ => bI false))), (q4, .inl (K 2, 200, .inl (fun _ => bI false))), (q5, .inl (K 1, 200, .inl (fun _ => nI 0))), (q6, .inl (K 1, 3200, .inl (fun _ => nI 0))), (q7, .inl (K 0, 3200, .inr (.inl (fun _ => 0))))]) H := hP
  have hD : va_D A (ws ++ [(h0, .inr (ciM, [.ref q1, .ref q2, .int (nI 0), .ref q3, .ref q4, .ref q5, .ref q6, .ref q7])), (q1, .inl (K 0, 300, .inr (.inl (fun _ => 0)))), (q2, .inl (K 0, 300, .inr (.inl (fun _ => 0)))), (q3, .inl (K 2, 200, .inl (fun _ => bI false))), (q4, .inl (K 2, 200, .inl (fun _ => bI false))), (q5, .inl (K 1, 200, .inl (fun _ => nI 0))), (q6, .inl (K 1, 3200, .inl (fun _ => nI 0))), (q7, .inl (K 0, 3200, .inr (.inl (fun _ => 0))))]) := hD
  exact W.vret hx hb hr (fun t ht _ => ⟨⟨(q1, q2, q3, q4, q5, q6, q7), rfl, trivial, by rw [ht]; exact hP, hD⟩, hS.F ht⟩) hS.2.2 dX2_init_67
end CTOR
