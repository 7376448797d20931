/-! CLASS AND REFERENCE SIDE BY SIDE: what holds between two calls, and that each call keeps it -/
def LI (va fl : Nat → Int64) (n tc sc : Nat) (T S : Nat → Bool) (us : Nat → Nat) (ps : Nat → Nat → Nat) (am : Nat → Nat → Int64) (va' fl' : Nat → Int64) (th ch : Nat → Bool) (mn po : Nat → Nat) (an : Nat → Int64) : Prop :=
  cl_ok us ps am va fl n ∧ tc = cn T n ∧ sc = cn S n ∧ (∀ q, q < 300 → va q = va' q ∧ fl q = fl' q) ∧ (∀ i, i < n → T i = th i ∧ S i = ch i ∧ ag us ps am mn po an i) ∧ ∀ i, n ≤ i → th i = false ∧ ch i = false ∧ mn i = 0
theorem sl_ok_congr {p p' : Nat → Nat} {a a' : Nat → Int64} {u : Nat} (h1 : ∀ k, k < u → p k = p' k) (h2 : ∀ k, k < u → a k = a' k) (h : sl_ok p a u) : sl_ok p' a' u := by
  refine ⟨h.1, fun k hk => ?_, fun x y hx hy e => ?_, fun k hk => ?_⟩
  · rw [← h1 k hk]; exact h.2.1 k hk
  · rw [← h1 x hx, ← h1 y hy] at e; exact h.2.2.1 x y hx hy e
  · rw [← h2 k hk]; exact h.2.2.2 k hk
section LAW
variable {va fl : Nat → Int64} {n tc sc : Nat} {T S : Nat → Bool} {us : Nat → Nat} {ps : Nat → Nat → Nat} {am : Nat → Nat → Int64} {va' fl' : Nat → Int64} {th ch : Nat → Bool} {mn po : Nat → Nat} {an : Nat → Int64}
theorem ag_ok {i : Nat} (h : ag us ps am mn po an i) (hok : sl_ok (ps i) (am i) (us i)) : sl_ok (psM po i) (amM an i) (mn i) := by
  rw [← h.1]
  exact sl_ok_congr (fun k hk => (h.2 k hk).1) (fun k hk => (h.2 k hk).2) hok
theorem ag_nv {i : Nat} (h : ag us ps am mn po an i) (q : Nat) : nvS us ps am i q = nvS mn (psM po) (amM an) i q := by
  unfold nvS
  rw [← h.1]
  exact sl_congr (fun k hk => (h.2 k hk).1) (fun k hk => (h.2 k hk).2)
theorem LI_model (L : LI va fl n tc sc T S us ps am va' fl' th ch mn po an) : cl_ok mn (psM po) (amM an) va' fl' n := by
  obtain ⟨h1, -, -, h4, h5, -⟩ := L
  refine ⟨h1.1, fun i hi => ag_ok (h5 i hi).2.2 (h1.2.1 i hi), fun q hq => ?_⟩
  rw [← (h4 q hq).1, ← (h4 q hq).2]
  exact h1.2.2 q hq
/-- the start -/
theorem LI_0 : LI (fun _ => 0) (fun _ => 0) 0 0 0 (fun _ => false) (fun _ => false) (fun _ => 0) (fun _ _ => 0) (fun _ _ => 0) (fun _ => 0) (fun _ => 0) (fun _ => false) (fun _ => false) (fun _ => 0) (fun _ => 0) (fun _ => 0) :=
  ⟨⟨by decide, fun i hi => absurd hi (Nat.not_lt_zero i), fun q _ => by show -1000000000000000000 ≤ (0 : Int64).toInt ∧ (0 : Int64).toInt ≤ (0 : Int64).toInt ∧ (0 : Int64).toInt ≤ 1000000000000000000; rw [Int64.toInt_zero]; omega⟩, rfl, rfl, fun _ _ => ⟨rfl, rfl⟩, fun i hi => absurd hi (Nat.not_lt_zero i), fun _ _ => ⟨rfl, rfl, rfl⟩⟩
theorem LI_place (L : LI va fl n tc sc T S us ps am va' fl' th ch mn po an) {p : Nat} {v f : Int64} (h1 : -1000000000000000000 ≤ f.toInt) (h2 : f.toInt ≤ v.toInt) (h3 : v.toInt ≤ 1000000000000000000) : LI (va_up va p v) (va_up fl p f) n tc sc T S us ps am (va_up va' p v) (va_up fl' p f) th ch mn po an := by
  obtain ⟨⟨a1, a2, a3⟩, b2, b3, b4, b5, b6⟩ := L
  refine ⟨⟨a1, a2, fun q hq => ?_⟩, b2, b3, fun q hq => ?_, b5, b6⟩
  · by_cases e : q = p
    · subst e; rw [va_up_self, va_up_self]; exact ⟨h1, h2, h3⟩
    · rw [va_up_ne _ _ e, va_up_ne _ _ e]; exact a3 q hq
  · by_cases e : q = p
    · subst e; rw [va_up_self, va_up_self, va_up_self, va_up_self]; exact ⟨rfl, rfl⟩
    · rw [va_up_ne _ _ e, va_up_ne _ _ e, va_up_ne _ _ e, va_up_ne _ _ e]; exact b4 q hq
theorem LI_item (L : LI va fl n tc sc T S us ps am va' fl' th ch mn po an) (hn : n < 200) : LI va fl (n + 1) (tc + 1) sc (va_up T n true) (va_up S n false) (va_up us n 0) (va_up ps n (fun _ => 0)) (va_up am n (fun _ => 0)) va' fl' (va_up th n true) ch mn po an := by
  obtain ⟨⟨a1, a2, a3⟩, b2, b3, b4, b5, b6⟩ := L
  have e : ∀ i, i < n → ¬ i = n := fun i hi => by omega
  refine ⟨⟨by omega, fun i hi => ?_, a3⟩, ?_, ?_, b4, fun i hi => ?_, fun i hi => ?_⟩
  · by_cases ei : i = n
    · subst ei
      rw [va_up_self, va_up_self, va_up_self]
      exact ⟨by omega, fun k hk => absurd hk (Nat.not_lt_zero k), fun x y hx => absurd hx (Nat.not_lt_zero x), fun k hk => absurd hk (Nat.not_lt_zero k)⟩
    · rw [va_up_ne _ _ ei, va_up_ne _ _ ei, va_up_ne _ _ ei]
      exact a2 i (by omega)
  · rw [cn_succ, va_up_self, if_pos rfl, cn_congr (fun k hk => va_up_ne T true (e k hk)), b2]
  · rw [cn_succ, va_up_self, if_neg (by decide), cn_congr (fun k hk => va_up_ne S false (e k hk)), b3]
    rfl
  · by_cases ei : i = n
    · subst ei
      have := b6 i (Nat.le_refl i)
      rw [va_up_self, va_up_self, va_up_self]
      refine ⟨rfl, this.2.1.symm, ?_, fun k hk => ?_⟩
      · rw [va_up_self]; exact this.2.2.symm
      · rw [va_up_self] at hk; exact absurd hk (Nat.not_lt_zero k)
    · rw [va_up_ne _ _ ei, va_up_ne _ _ ei, va_up_ne _ _ ei]
      obtain ⟨c1, c2, c3, c4⟩ := b5 i (by omega)
      refine ⟨c1, c2, ?_, fun k hk => ?_⟩
      · rw [va_up_ne _ _ ei]; exact c3
      · rw [va_up_ne _ _ ei] at hk
        rw [va_up_ne _ _ ei, va_up_ne _ _ ei]
        exact c4 k hk
  · have := b6 i (by omega)
    rw [va_up_ne _ _ (by omega)]
    exact this
theorem LI_go (L : LI va fl n tc sc T S us ps am va' fl' th ch mn po an) {i : Nat} (hi : i < n) (hT : T i = true) : LI va fl n (tc - 1) sc (va_up T i false) S us ps am va' fl' (va_up th i false) ch mn po an := by
  obtain ⟨a1, b2, b3, b4, b5, b6⟩ := L
  have hc := cn_off n hi hT
  refine ⟨a1, by omega, b3, b4, fun j hj => ?_, fun j hj => ?_⟩
  · by_cases e : j = i
    · subst e; rw [va_up_self, va_up_self]; exact ⟨rfl, (b5 j hj).2⟩
    · rw [va_up_ne _ _ e, va_up_ne _ _ e]; exact b5 j hj
  · rw [va_up_ne _ _ (by omega)]; exact b6 j hj
theorem LI_net (L : LI va fl n tc sc T S us ps am va' fl' th ch mn po an) {i p : Nat} {a : Int64} (hi : i < n) (hp : p < 300) : (chC p a (us i) (ps i) (am i)).1 = (chM mn po an i p a).1 ∧ LI va fl n tc sc T S (va_up us i (chC p a (us i) (ps i) (am i)).2.1) (va_up ps i (chC p a (us i) (ps i) (am i)).2.2.1) (va_up am i (chC p a (us i) (ps i) (am i)).2.2.2) va' fl' th ch (chM mn po an i p a).2.1 (chM mn po an i p a).2.2.1 (chM mn po an i p a).2.2.2 := by
  obtain ⟨⟨a1, a2, a3⟩, b2, b3, b4, b5, b6⟩ := L
  obtain ⟨h1, h2, h3, h4, h5, h6⟩ := net_ok (a := a) (b5 i hi).2.2 (a2 i hi) hp
  refine ⟨h1, ⟨a1, fun j hj => ?_, a3⟩, b2, b3, b4, fun j hj => ?_, fun j hj => ?_⟩
  · by_cases e : j = i
    · subst e; rw [va_up_self, va_up_self, va_up_self]; exact h2
    · rw [va_up_ne _ _ e, va_up_ne _ _ e, va_up_ne _ _ e]; exact a2 j hj
  · obtain ⟨c1, c2, c3, c4⟩ := b5 j hj
    refine ⟨c1, c2, ?_⟩
    by_cases e : j = i
    · subst e
      unfold ag
      rw [va_up_self, va_up_self, va_up_self]
      exact ⟨h3.symm, h4⟩
    · unfold ag
      rw [va_up_ne _ _ e, va_up_ne _ _ e, va_up_ne _ _ e, h5 j e]
      refine ⟨c3, fun k hk => ?_⟩
      have hu := (a2 j hj).1
      have := h6 (16 * j + k) (by omega)
      rw [this.1, this.2]
      exact c4 k hk
  · have := b6 j hj
    exact ⟨this.1, this.2.1, by rw [h5 j (by omega)]; exact this.2.2⟩
theorem LI_gT (L : LI va fl n tc sc T S us ps am va' fl' th ch mn po an) (q : Nat) : sm (gd_T (nvS us ps am) S q) n = sm (gd_T (nvS mn (psM po) (amM an)) ch q) n := sm_congr (fun k hk => by
  have := L.2.2.2.2.1 k hk
  unfold gd_T
  rw [this.2.1, ag_nv this.2.2 q])
theorem LI_solve (L : LI va fl n tc sc T S us ps am va' fl' th ch mn po an) {σ : DS} {ch2 : Nat → Bool} (hd : fg_end us ps am T va fl n σ) (hm : ms_inv mn po an va' fl' n th ch2) (hg : gd_good n th (nvS mn (psM po) (amM an)) (iV va') (iV fl') ch2) : LI va fl n tc σ.2.2.2 T σ.1 us ps am va' fl' th ch2 mn po an := by
  obtain ⟨a1, b2, b3, b4, b5, b6⟩ := L
  obtain ⟨d1, d2, d3, d4⟩ := hd
  have e1 : ∀ i, i < n → th i = T i := fun i hi => (b5 i hi).1.symm
  have e2 : ∀ i p, i < n → p < 300 → nvS mn (psM po) (amM an) i p = nvS us ps am i p := fun i p hi _ => (ag_nv (b5 i hi).2.2 p).symm
  have e3 : ∀ p, p < 300 → iV va' p = iV va p := fun p hp => by show (va' p).toInt = (va p).toInt; rw [(b4 p hp).1]
  have e4 : ∀ p, p < 300 → iV fl' p = iV fl p := fun p hp => by show (fl' p).toInt = (fl p).toInt; rw [(b4 p hp).2]
  have hu := gd_unique d1 d2 (gd_good_congr e1 e2 e3 e4 (fun _ _ => rfl) hg) (gd_sub_congr e1 e2 e3 e4 (fun _ _ => rfl) hm.2.1)
  refine ⟨a1, b2, d3, b4, fun i hi => ⟨(b5 i hi).1, hu i hi, (b5 i hi).2.2⟩, fun i hi => ⟨(b6 i hi).1, hm.2.2 i hi, (b6 i hi).2.2⟩⟩
theorem LI_perform (L : LI va fl n tc sc T S us ps am va' fl' th ch mn po an) {af va2 va2' : Nat → Int64} {T2 th2 : Nat → Bool} (hg : gd_good n T (nvS us ps am) (iV va) (iV fl) S) (haf : ∀ q, q < 300 → (af q).toInt = (va q).toInt + sm (gd_T (nvS us ps am) S q) n) (hfit : ∀ q, q < 300 → (af q).toInt ≤ 1000000000000000000) (hv : ∀ q, q < 300 → va2 q = af q) (hv' : ∀ q, q < 300 → (va2' q).toInt = (va' q).toInt + sm (gd_T (nvS mn (psM po) (amM an)) ch q) n) (hT : ∀ i, i < n → T2 i = (T i && !S i)) (hth : ∀ i, i < n → th2 i = (th i && !ch i)) (hth2 : ∀ i, n ≤ i → th2 i = false) : LI va2 fl n (tc - sc) sc T2 S us ps am va2' fl' th2 ch mn po an := by
  have eT := LI_gT L
  obtain ⟨⟨a1, a2, a3⟩, b2, b3, b4, b5, b6⟩ := L
  refine ⟨⟨a1, a2, fun q hq => ?_⟩, ?_, b3, fun q hq => ?_, fun i hi => ?_, fun i hi => ?_⟩
  · have h1 := a3 q hq
    have h2 := hg.2.2 q hq
    have h2 : (fl q).toInt ≤ (va q).toInt + sm (gd_T (nvS us ps am) S q) n := h2
    have h3 := haf q hq
    have h4 := hfit q hq
    rw [hv q hq]
    omega
  · have := cn_sub (S := S) (T := T) (n := n) hg.1
    rw [cn_congr hT]
    omega
  · refine ⟨?_, (b4 q hq).2⟩
    rw [hv q hq, ← Int64.toInt_inj, haf q hq, hv' q hq, eT q, (b4 q hq).1]
  · refine ⟨?_, (b5 i hi).2⟩
    rw [hT i hi, hth i hi, (b5 i hi).1, (b5 i hi).2.1]
  · exact ⟨hth2 i hi, (b6 i hi).2⟩
end LAW
