/-! THE LAW: its loop and its start -/
section LAWE
variable {p : Program} {l : Launch} {e : Env} {s : State} {m : MethodId} {below : List Frame} {meth : Method} {c : Code} {b L : Nat} {xs : Nat → Int32} {Q : State → Prop} {D : va_G} {K : Nat → ClassId} {o o' : Nat → Nat}
set_option maxHeartbeats 1000000 in
set_option maxRecDepth 100000 in
theorem law_loop (G : lC D K p s m c b L xs) (kx : ∀ (H : Heap) (locs : List Loc) (ls : Array Slot) (cells slots : Nat), va_S (fun q => s.heap.size ≤ q) s.heap H locs → cells ≤ 2000 → slots ≤ 40000 → W p l e room_1 s m #[Value.ref b] below meth c H locs cells slots Q (F0 m 436 ls [])) : ∀ (f t : Nat), t ≤ 512 → L + 6 ≤ 6 * (t + f) → LK p l e s m below meth c b t Q D K o o' 18 0 0 := by
  intro f
  induction f with
  | zero =>
    intro t h1 h2 ad va fl af bl n tc sc T S us ps am va' fl' th ch mn po an H locs ls cells slots Lh hP hD hS hl hc hs
    obtain ⟨C, hml, hX, hbl, hL3⟩ := id G
    have hx := C.1
    have hb := C.2.1
    refine lv_iload_n hx hb dL_law_18 rfl (lv_at hl 3 rfl) ?_
    refine lv_aload_n hx hb dL_law_19 rfl (lv_at hl 0 rfl) ?_
    refine va_slen (A := fun q => s.heap.size ≤ q) hx hb hX hbl (Nat.not_le.mpr hbl) hS dL_law_20 ?_
    refine lv_bipush (v := nI 6) hx hb dL_law_21 (by decide) ?_
    refine lv_isub hx hb dL_law_23 ?_
    have e6 : (Int32.ofNat L - nI 6).toInt = (L : Int) - 6 := pk_sub_toInt (by omega) (by omega)
    have e7 : (nI (6 * t)).toInt = ((6 * t : Nat) : Int) := nI_toInt (by omega)
    refine lv_icmp_gt (tgt := 436) hx hb dL_law_24 (by decide) (fun c1 => ?_) (fun c1 => ?_)
    · exact kx H locs ls cells slots hS (by omega) (by omega)
    · have hlt : 6 * t + 6 ≤ L := by
        rw [Int32.lt_iff_toInt_lt, e6, e7] at c1
        omega
      exact absurd hlt (by omega)
  | succ f ih =>
    intro t h1 h2 ad va fl af bl n tc sc T S us ps am va' fl' th ch mn po an H locs ls cells slots Lh hP hD hS hl hc hs
    obtain ⟨C, hml, hX, hbl, hL3⟩ := id G
    have hx := C.1
    have hb := C.2.1
    refine lv_iload_n hx hb dL_law_18 rfl (lv_at hl 3 rfl) ?_
    refine lv_aload_n hx hb dL_law_19 rfl (lv_at hl 0 rfl) ?_
    refine va_slen (A := fun q => s.heap.size ≤ q) hx hb hX hbl (Nat.not_le.mpr hbl) hS dL_law_20 ?_
    refine lv_bipush (v := nI 6) hx hb dL_law_21 (by decide) ?_
    refine lv_isub hx hb dL_law_23 ?_
    have e6 : (Int32.ofNat L - nI 6).toInt = (L : Int) - 6 := pk_sub_toInt (by omega) (by omega)
    have e7 : (nI (6 * t)).toInt = ((6 * t : Nat) : Int) := nI_toInt (by omega)
    refine lv_icmp_gt (tgt := 436) hx hb dL_law_24 (by decide) (fun c1 => ?_) (fun c1 => ?_)
    · exact kx H locs ls cells slots hS (by omega) (by omega)
    · have hlt : 6 * t + 6 ≤ L := by
        rw [Int32.lt_iff_toInt_lt, e6, e7] at c1
        omega
      refine lv_aload_n hx hb dL_law_27 rfl (lv_at hl 0 rfl) ?_
      refine lv_iload_n hx hb dL_law_28 rfl (lv_at hl 3 rfl) ?_
      refine ldx hx hb hX hbl hS (by omega) hL3 dL_law_29 ?_
      refine lv_bipush (v := nI 15) hx hb dL_law_30 (by decide) ?_
      refine lv_iand hx hb dL_law_32 ?_
      obtain ⟨j, hj, ej⟩ := pk_andE (xs (6 * t)) (m := nI 15) 4 (by decide)
      refine tp_i (y := nI j) (ej) ?_
      have kk : LK p l e s m below meth c b t Q D K o o' 430 3 37 := by
        intro ad va fl af bl n tc sc T S us ps am va' fl' th ch mn po an H locs ls cells slots Lh hP hD hS hl hc hs
        refine lv_iinc (v := nI (6 * (t + 1))) (lv' := [(3, .int (nI (6 * (t + 1)))), (0, .ref b), (1, .ref (o 0)), (2, .ref (o' 0))]) hx hb dL_law_430 hl (k := 3) rfl (by show nI (6 * t) + nI 6 = _; rw [nI_add]; rfl) (by decide) rfl (fun ls hl => ?_)
        refine lv_goto (tgt := 18) hx hb dL_law_433 (by decide) ?_
        exact ih (t + 1) (by omega) (by omega) Lh hP hD hS (lv_sub hl [1, 2, 3, 0] rfl) (by omega) (by omega)
      by_cases h0 : j = 0
      · subst h0
        refine lv_tableIn (off := 55) (tgt := 88) hx hb dL_law_33 (by decide) (by decide) (by decide) (by decide) ?_
        exact law_place G hlt Lh hP hD hS hl hc hs kk
      by_cases h1 : j = 1
      · subst h1
        refine lv_tableIn (off := 158) (tgt := 191) hx hb dL_law_33 (by decide) (by decide) (by decide) (by decide) ?_
        exact law_item G hlt Lh hP hD hS hl hc hs kk
      by_cases h2 : j = 2
      · subst h2
        refine lv_tableIn (off := 171) (tgt := 204) hx hb dL_law_33 (by decide) (by decide) (by decide) (by decide) ?_
        exact law_net G hlt Lh hP hD hS hl hc hs kk
      by_cases h3 : j = 3
      · subst h3
        refine lv_tableIn (off := 244) (tgt := 277) hx hb dL_law_33 (by decide) (by decide) (by decide) (by decide) ?_
        exact law_go G hlt Lh hP hD hS hl hc hs kk
      by_cases h4 : j = 4
      · subst h4
        refine lv_tableIn (off := 267) (tgt := 300) hx hb dL_law_33 (by decide) (by decide) (by decide) (by decide) ?_
        exact law_solve G hlt Lh hP hD hS hl hc hs kk
      by_cases h5 : j = 5
      · subst h5
        refine lv_tableIn (off := 280) (tgt := 313) hx hb dL_law_33 (by decide) (by decide) (by decide) (by decide) ?_
        exact law_in G hlt Lh hP hD hS hl hc hs kk
      by_cases h6 : j = 6
      · subst h6
        refine lv_tableIn (off := 303) (tgt := 336) hx hb dL_law_33 (by decide) (by decide) (by decide) (by decide) ?_
        exact law_perform G hlt Lh hP hD hS hl hc hs kk
      by_cases h7 : j = 7
      · subst h7
        refine lv_tableIn (off := 316) (tgt := 349) hx hb dL_law_33 (by decide) (by decide) (by decide) (by decide) ?_
        exact law_value G hlt Lh hP hD hS hl hc hs kk
      by_cases h8 : j = 8
      · subst h8
        refine lv_tableIn (off := 340) (tgt := 373) hx hb dL_law_33 (by decide) (by decide) (by decide) (by decide) ?_
        exact law_netOf G hlt Lh hP hD hS hl hc hs kk
      by_cases h9 : j = 9
      · subst h9
        refine lv_tableIn (off := 374) (tgt := 407) hx hb dL_law_33 (by decide) (by decide) (by decide) (by decide) ?_
        exact law_count G hlt Lh hP hD hS hl hc hs kk
      have ej2 : (nI j).toInt = (j : Int) := nI_toInt (by omega)
      refine lv_tableOut (tgt := 430) hx hb dL_law_33 (by rw [ej2]; omega) (by decide) ?_
      exact kk Lh hP hD hS hl (by omega) (by omega)
end LAWE
