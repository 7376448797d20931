/-! NEW CELLS: arrays under the classes K; the tables' classes at the start -/
section NEWC
variable {p : Program} {l : Launch} {e : Env} {Rm : Room} {s : State} {m : MethodId} {args : Array Value} {below : List Frame} {meth : Method} {c : Code} {H : Heap} {locs : List Loc} {cells slots : Nat} {Q : State → Prop} {cc : ByteArray} {pc : Nat} {ls : Array Slot} {rest : List Value} {own : String} {D : va_G} {A : Nat → Prop} {H0 : Heap} {K : Nat → ClassId} {ws : va_W} {N : Nat}
theorem nwJ (C : cx own D K p s m args c cc) (hP : va_P D vwCl ws H) (hD : va_D A ws) (hS : va_S A H0 H locs) (hA : ∀ q, H0.size ≤ q → A q) (hN : N < 5000) (hc : cells + 1 ≤ Rm.cells) (hs : slots + N ≤ Rm.slots) (hdg : decode cc pc = .ok (.newarray .long, 2)) (kk : ∀ (q : Nat) (H1 : Heap), va_P D vwCl (ws ++ [(q, .inl (K 0, N, .inr (.inl (fun _ => 0))))]) H1 → va_D A (ws ++ [(q, .inl (K 0, N, .inr (.inl (fun _ => 0))))]) → va_S A H0 H1 locs → W p l e Rm s m args below meth c H1 locs (cells + 1) (slots + N) Q (F0 m (pc + 2) ls (.ref q :: rest))) : W p l e Rm s m args below meth c H locs cells slots Q (F0 m pc ls (.int (nI N) :: rest)) := by
  refine va_newa (atype := .long) (ty := .long) (a0 := (N, .inr (.inl (fun _ => 0)))) C.1 C.2.1 (C.2.2.2.1 _ (by decide +kernel : Cond.arrayClass .long ∈ tT)) rfl C.2.2.2.2.1 hP hD hS hA (fun cA => rfl) (nI_pos (by omega)) (nI_clamp (by omega)) (by show N * 8 ≤ 536870912; omega) hc hs hdg (fun q cA H1 hK1 hP1 hD1 hS1 => ?_)
  have e : cA = K 0 := Option.some.inj ((hK1.2 4 _ rfl).2.symm.trans (C.2.2.2.2.1.2 0 _ rfl).2)
  subst e
  exact kk q H1 hP1 hD1 hS1
theorem nwI (C : cx own D K p s m args c cc) (hP : va_P D vwCl ws H) (hD : va_D A ws) (hS : va_S A H0 H locs) (hA : ∀ q, H0.size ≤ q → A q) (hN : N < 5000) (hc : cells + 1 ≤ Rm.cells) (hs : slots + N ≤ Rm.slots) (hdg : decode cc pc = .ok (.newarray .int, 2)) (kk : ∀ (q : Nat) (H1 : Heap), va_P D vwCl (ws ++ [(q, .inl (K 1, N, .inl (fun _ => nI 0)))]) H1 → va_D A (ws ++ [(q, .inl (K 1, N, .inl (fun _ => nI 0)))]) → va_S A H0 H1 locs → W p l e Rm s m args below meth c H1 locs (cells + 1) (slots + N) Q (F0 m (pc + 2) ls (.ref q :: rest))) : W p l e Rm s m args below meth c H locs cells slots Q (F0 m pc ls (.int (nI N) :: rest)) := by
  refine va_newa (atype := .int) (ty := .int) (a0 := (N, .inl (fun _ => nI 0))) C.1 C.2.1 (C.2.2.2.1 _ (by decide +kernel : Cond.arrayClass .int ∈ tT)) rfl C.2.2.2.2.1 hP hD hS hA (fun cA => rfl) (nI_pos (by omega)) (nI_clamp (by omega)) (by show N * 4 ≤ 536870912; omega) hc hs hdg (fun q cA H1 hK1 hP1 hD1 hS1 => ?_)
  have e : cA = K 1 := Option.some.inj ((hK1.2 4 _ rfl).2.symm.trans (C.2.2.2.2.1.2 1 _ rfl).2)
  subst e
  exact kk q H1 hP1 hD1 hS1
theorem nwZ (C : cx own D K p s m args c cc) (hP : va_P D vwCl ws H) (hD : va_D A ws) (hS : va_S A H0 H locs) (hA : ∀ q, H0.size ≤ q → A q) (hN : N < 5000) (hc : cells + 1 ≤ Rm.cells) (hs : slots + N ≤ Rm.slots) (hdg : decode cc pc = .ok (.newarray .boolean, 2)) (kk : ∀ (q : Nat) (H1 : Heap), va_P D vwCl (ws ++ [(q, .inl (K 2, N, .inl (fun _ => bI false)))]) H1 → va_D A (ws ++ [(q, .inl (K 2, N, .inl (fun _ => bI false)))]) → va_S A H0 H1 locs → W p l e Rm s m args below meth c H1 locs (cells + 1) (slots + N) Q (F0 m (pc + 2) ls (.ref q :: rest))) : W p l e Rm s m args below meth c H locs cells slots Q (F0 m pc ls (.int (nI N) :: rest)) := by
  refine va_newa (atype := .boolean) (ty := .boolean) (a0 := (N, .inl (fun _ => bI false))) C.1 C.2.1 (C.2.2.2.1 _ (by decide +kernel : Cond.arrayClass .boolean ∈ tT)) rfl C.2.2.2.2.1 hP hD hS hA (fun cA => rfl) (nI_pos (by omega)) (nI_clamp (by omega)) (by show N * 1 ≤ 536870912; omega) hc hs hdg (fun q cA H1 hK1 hP1 hD1 hS1 => ?_)
  have e : cA = K 2 := Option.some.inj ((hK1.2 4 _ rfl).2.symm.trans (C.2.2.2.2.1.2 2 _ rfl).2)
  subst e
  exact kk q H1 hP1 hD1 hS1
theorem nwQ {index : Nat} (C : cx own D K p s m args c cc) (hlk : Cond.classLink own index RIt ∈ tT) (hP : va_P D vwCl ws H) (hD : va_D A ws) (hS : va_S A H0 H locs) (hA : ∀ q, H0.size ≤ q → A q) (hN : N < 5000) (hc : cells + 1 ≤ Rm.cells) (hs : slots + N ≤ Rm.slots) (hdg : decode cc pc = .ok (.anewarray index, 3)) (kk : ∀ (q : Nat) (H1 : Heap), va_P D vwCl (ws ++ [(q, .inl (K 3, N, .inr (.inr (.inr (.inr (fun _ => none))))))]) H1 → va_D A (ws ++ [(q, .inl (K 3, N, .inr (.inr (.inr (.inr (fun _ => none))))))]) → va_S A H0 H1 locs → W p l e Rm s m args below meth c H1 locs (cells + 1) (slots + N) Q (F0 m (pc + 3) ls (.ref q :: rest))) : W p l e Rm s m args below meth c H locs cells slots Q (F0 m pc ls (.int (nI N) :: rest)) := by
  refine va_newq C.1 C.2.1 C.2.2.1 (C.2.2.2.1 _ hlk) C.2.2.2.2.2.2 C.2.2.2.2.1 hP hD hS hA (nI_pos (by omega)) (nI_clamp (by omega)) (by omega) hc hs hdg (fun q cA H1 hK1 hP1 hD1 hS1 => ?_)
  have e : cA = K 3 := by
    obtain ⟨k1, c1, -, -, -, f1⟩ := (hK1.2 4 _ rfl).2
    obtain ⟨k2, c2, -, -, -, f2⟩ := (C.2.2.2.2.1.2 3 _ rfl).2
    exact Option.some.inj (f1.symm.trans f2)
  subst e
  exact kk q H1 hP1 hD1 hS1
end NEWC
/-- the array classes of the tables -/
theorem mkK {D : va_G} {args : Array Value} {s : State} (hc : ∀ (c : Nat) (q : vw_C), vwCl[c]? = some q → u_Kn s q.1 q.2.1 q.2.2 (D.1 c) (D.2 c)) (hts : ∀ w ∈ tT, w.before args s = true) (hO : va_AO RIt s) : ∃ K : Nat → ClassId, va_K D vwCl (tyK K) s := by
  obtain ⟨a0, k0, q0, f0, g0, h0⟩ := Cond.arrayClass_spec (hts _ (by decide +kernel : Cond.arrayClass .long ∈ tT))
  obtain ⟨a1, k1, q1, f1, g1, h1⟩ := Cond.arrayClass_spec (hts _ (by decide +kernel : Cond.arrayClass .int ∈ tT))
  obtain ⟨a2, k2, q2, f2, g2, h2⟩ := Cond.arrayClass_spec (hts _ (by decide +kernel : Cond.arrayClass .boolean ∈ tT))
  obtain ⟨q3, a3, k3, e3, -, g3, h3, f3⟩ := Cond.arrayOver_spec hO
  refine ⟨fun k => if k = 0 then a0 else if k = 1 then a1 else if k = 2 then a2 else a3, hc, fun k q hk => ?_⟩
  match k, hk with
  | 0, hk => cases hk; exact ⟨fun n z => ⟨fun k h => (by cases h), k0, g0, q0, h0⟩, f0⟩
  | 1, hk => cases hk; exact ⟨fun n z => ⟨fun k h => (by cases h), k1, g1, q1, h1⟩, f1⟩
  | 2, hk => cases hk; exact ⟨fun n z => ⟨fun k h => (by cases h), k2, g2, q2, h2⟩, f2⟩
  | 3, hk => cases hk; exact ⟨fun n z => ⟨fun k h => (by cases h), k3, g3, q3, h3⟩, k3, q3, g3, h3, e3, f3⟩
  | k + 4, hk => cases hk
