/-! net: what a change of a net does to an item's slots, in the class and in the reference -/
def qx (ps : Nat → Nat) (x : Int32) : Nat → Bool := fun k => decide (nI (ps k) = x)
abbrev NT : Type := Bool × Nat × (Nat → Nat) × (Nat → Int64)
/-- the class's change -/
def chC (p : Nat) (a : Int64) (u : Nat) (ps : Nat → Nat) (am : Nat → Int64) : NT :=
  if a < -2000000000000000 ∨ 2000000000000000 < a then (false, u, ps, am)
  else if ntq (qx ps (nI p)) u am + a < -1000000000000000 ∨ 1000000000000000 < ntq (qx ps (nI p)) u am + a then (false, u, ps, am)
  else if fs (qx ps (nI p)) u 0 < u then
    (if ntq (qx ps (nI p)) u am + a = 0 then (true, u - 1, va_up ps (fs (qx ps (nI p)) u 0) (ps (u - 1)), va_up (va_up am (fs (qx ps (nI p)) u 0) (ntq (qx ps (nI p)) u am + a)) (fs (qx ps (nI p)) u 0) (va_up am (fs (qx ps (nI p)) u 0) (ntq (qx ps (nI p)) u am + a) (u - 1)))
     else (true, u, ps, va_up am (fs (qx ps (nI p)) u 0) (ntq (qx ps (nI p)) u am + a)))
  else if ntq (qx ps (nI p)) u am + a = 0 then (true, u, ps, am)
  else if 16 ≤ u then (false, u, ps, am)
  else (true, u + 1, va_up ps u p, va_up am u (ntq (qx ps (nI p)) u am + a))
abbrev NM : Type := Bool × (Nat → Nat) × (Nat → Nat) × (Nat → Int64)
/-- the reference's net -/
def chM (mn po : Nat → Nat) (an : Nat → Int64) (i p : Nat) (a : Int64) : NM :=
  if 2000000000000000 < a ∨ a < -2000000000000000 then (false, mn, po, an)
  else if 1000000000000000 < netA mn po an i p + a ∨ netA mn po an i p + a < -1000000000000000 then (false, mn, po, an)
  else if mfd mn po i p < 16 * i + mn i ∧ netA mn po an i p + a = 0 then (true, va_up mn i (mn i - 1), va_up po (mfd mn po i p) (po (16 * i + mn i - 1)), va_up an (mfd mn po i p) (an (16 * i + mn i - 1)))
  else if netA mn po an i p + a = 0 then (true, mn, po, an)
  else if mfd mn po i p = 16 * i + mn i ∧ mn i = 16 then (false, mn, po, an)
  else (true, if mfd mn po i p = 16 * i + mn i then va_up mn i (mn i + 1) else mn, va_up po (mfd mn po i p) p, va_up an (mfd mn po i p) (netA mn po an i p + a))
/-- class and reference hold the same slots of item i -/
def ag (us : Nat → Nat) (ps : Nat → Nat → Nat) (am : Nat → Nat → Int64) (mn po : Nat → Nat) (an : Nat → Int64) (i : Nat) : Prop := us i = mn i ∧ ∀ k, k < us i → ps i k = po (16 * i + k) ∧ am i k = an (16 * i + k)
theorem qx_iff {ps : Nat → Nat} {u p k : Nat} (h : ∀ k, k < u → ps k < 300) (hp : p < 300) (hk : k < u) : qx ps (nI p) k = true ↔ ps k = p := by
  unfold qx
  rw [decide_eq_true_iff]
  exact nI_eq (by have := h k hk; omega) (by omega)
theorem net_fd {us : Nat → Nat} {ps : Nat → Nat → Nat} {am : Nat → Nat → Int64} {mn po : Nat → Nat} {an : Nat → Int64} {i p : Nat} (h : ag us ps am mn po an i) (hb : ∀ k, k < us i → ps i k < 300) (hp : p < 300) : mfd mn po i p = 16 * i + fs (qx (ps i) (nI p)) (us i) 0 := by
  unfold mfd
  rw [← h.1]
  refine fs_shift (q := mq po p) (r := qx (ps i) (nI p)) (16 * i) (us i) 0 (fun j _ hj => ?_)
  unfold mq qx
  rw [← (h.2 j (by omega)).1]
  exact decide_eq_decide.mpr (nI_eq (by have := hb j (by omega); omega) (by omega)).symm
theorem net_nt {us : Nat → Nat} {ps : Nat → Nat → Nat} {am : Nat → Nat → Int64} {mn po : Nat → Nat} {an : Nat → Int64} {i p : Nat} (h : ag us ps am mn po an i) (hb : ∀ k, k < us i → ps i k < 300) (hp : p < 300) : netA mn po an i p = ntq (qx (ps i) (nI p)) (us i) (am i) := by
  unfold netA ntq
  rw [net_fd h hb hp, ← h.1]
  by_cases hlt : fs (qx (ps i) (nI p)) (us i) 0 < us i
  · rw [if_pos hlt, if_pos (by omega), (h.2 _ hlt).2]
  · rw [if_neg hlt, if_neg (by omega)]
theorem net_ok {us : Nat → Nat} {ps : Nat → Nat → Nat} {am : Nat → Nat → Int64} {mn po : Nat → Nat} {an : Nat → Int64} {i p : Nat} {a : Int64} (h : ag us ps am mn po an i) (hok : sl_ok (ps i) (am i) (us i)) (hp : p < 300) :
    (chC p a (us i) (ps i) (am i)).1 = (chM mn po an i p a).1 ∧ sl_ok (chC p a (us i) (ps i) (am i)).2.2.1 (chC p a (us i) (ps i) (am i)).2.2.2 (chC p a (us i) (ps i) (am i)).2.1 ∧
    (chM mn po an i p a).2.1 i = (chC p a (us i) (ps i) (am i)).2.1 ∧
    (∀ k, k < (chC p a (us i) (ps i) (am i)).2.1 → (chC p a (us i) (ps i) (am i)).2.2.1 k = (chM mn po an i p a).2.2.1 (16 * i + k) ∧ (chC p a (us i) (ps i) (am i)).2.2.2 k = (chM mn po an i p a).2.2.2 (16 * i + k)) ∧
    (∀ j, ¬ j = i → (chM mn po an i p a).2.1 j = mn j) ∧ (∀ x, x < 16 * i ∨ 16 * i + 16 ≤ x → (chM mn po an i p a).2.2.1 x = po x ∧ (chM mn po an i p a).2.2.2 x = an x) := by
  have hk := net_fd h hok.2.1 hp
  have hn := net_nt h hok.2.1 hp
  have hle := fs_le (qx (ps i) (nI p)) (us i) 0
  have hhit : fs (qx (ps i) (nI p)) (us i) 0 < us i → ps i (fs (qx (ps i) (nI p)) (us i) 0) = p := fun z => (qx_iff hok.2.1 hp z).mp (fs_hit _ _ _ (by omega))
  have hmiss : ¬ fs (qx (ps i) (nI p)) (us i) 0 < us i → ∀ j, j < us i → ¬ ps i j = p := by
    intro z j hj e
    have := fs_miss (qx (ps i) (nI p)) (us i) 0 j (Nat.zero_le j) (by omega)
    rw [(qx_iff hok.2.1 hp hj).mpr e] at this
    cases this
  unfold chC chM
  rw [hk, hn]
  generalize hs : ntq (qx (ps i) (nI p)) (us i) (am i) + a = s
  generalize fs (qx (ps i) (nI p)) (us i) 0 = f at hle hhit hmiss
  obtain ⟨h1, h2⟩ := h
  obtain ⟨o1, o2, o3, o4⟩ := hok
  have same : (us i = mn i) ∧ sl_ok (ps i) (am i) (us i) := ⟨h1, o1, o2, o3, o4⟩
  by_cases c1 : a < -2000000000000000 ∨ 2000000000000000 < a
  · rw [if_pos c1, if_pos c1.symm]
    exact ⟨rfl, same.2, h1.symm, h2, fun _ _ => rfl, fun _ _ => ⟨rfl, rfl⟩⟩
  rw [if_neg c1, if_neg (show ¬ (2000000000000000 < a ∨ a < -2000000000000000) from fun z => c1 z.symm)]
  by_cases c2 : s < -1000000000000000 ∨ 1000000000000000 < s
  · rw [if_pos c2, if_pos c2.symm]
    exact ⟨rfl, same.2, h1.symm, h2, fun _ _ => rfl, fun _ _ => ⟨rfl, rfl⟩⟩
  rw [if_neg c2, if_neg (show ¬ (1000000000000000 < s ∨ s < -1000000000000000) from fun z => c2 z.symm)]
  have hsb : -1000000000000000 ≤ s.toInt ∧ s.toInt ≤ 1000000000000000 := by
    have a1 : ¬ s < -1000000000000000 := fun z => c2 (Or.inl z)
    have a2 : ¬ 1000000000000000 < s := fun z => c2 (Or.inr z)
    rw [i64_lt] at a1 a2
    have e1 : (-1000000000000000 : Int64).toInt = -1000000000000000 := by decide
    have e2 : (1000000000000000 : Int64).toInt = 1000000000000000 := by decide
    rw [e1] at a1
    rw [e2] at a2
    omega
  by_cases c3 : f < us i
  · rw [if_pos c3]
    by_cases c4 : s = 0
    · rw [if_pos c4, if_pos (show 16 * i + f < 16 * i + mn i ∧ s = 0 from ⟨by omega, c4⟩)]
      have e : ∀ j, j < us i - 1 → va_up (va_up (am i) f s) f (va_up (am i) f s (us i - 1)) j = va_up (am i) f (am i (us i - 1)) j := by
        intro j hj
        by_cases ej : j = f
        · subst ej
          rw [va_up_self, va_up_self, va_up_ne _ _ (by omega)]
        · rw [va_up_ne _ _ ej, va_up_ne _ _ ej, va_up_ne _ _ ej]
      refine ⟨rfl, ⟨by show us i - 1 ≤ 16; omega, fun k hk => ?_, fun x y hx hy hxy => ?_, fun k hk => ?_⟩, by show va_up mn i (mn i - 1) i = us i - 1; rw [va_up_self, h1], fun k hk => ?_, fun j hj => va_up_ne _ _ hj, fun x hx => ⟨va_up_ne _ _ (by omega), va_up_ne _ _ (by omega)⟩⟩
      · show va_up (ps i) f (ps i (us i - 1)) k < 300
        have hk : k < us i - 1 := hk
        by_cases ek : k = f
        · subst ek; rw [va_up_self]; exact o2 _ (by omega)
        · rw [va_up_ne _ _ ek]; exact o2 _ (by omega)
      · have hx : x < us i - 1 := hx
        have hy : y < us i - 1 := hy
        have hxy : va_up (ps i) f (ps i (us i - 1)) x = va_up (ps i) f (ps i (us i - 1)) y := hxy
        by_cases ex : x = f
        · by_cases ey : y = f
          · rw [ex, ey]
          · subst ex
            rw [va_up_self, va_up_ne _ _ ey] at hxy
            have := o3 _ _ (by omega) (by omega) hxy
            omega
        · by_cases ey : y = f
          · subst ey
            rw [va_up_self, va_up_ne _ _ ex] at hxy
            have := o3 _ _ (by omega) (by omega) hxy
            omega
          · rw [va_up_ne _ _ ex, va_up_ne _ _ ey] at hxy
            exact o3 _ _ (by omega) (by omega) hxy
      · have hk : k < us i - 1 := hk
        show ¬ va_up (va_up (am i) f s) f (va_up (am i) f s (us i - 1)) k = 0 ∧ -1000000000000000 ≤ (va_up (va_up (am i) f s) f (va_up (am i) f s (us i - 1)) k).toInt ∧ (va_up (va_up (am i) f s) f (va_up (am i) f s (us i - 1)) k).toInt ≤ 1000000000000000
        rw [e k hk]
        by_cases ek : k = f
        · subst ek; rw [va_up_self]; exact o4 _ (by omega)
        · rw [va_up_ne _ _ ek]; exact o4 _ (by omega)
      · have hk : k < us i - 1 := hk
        show va_up (ps i) f (ps i (us i - 1)) k = va_up po (16 * i + f) (po (16 * i + mn i - 1)) (16 * i + k) ∧ va_up (va_up (am i) f s) f (va_up (am i) f s (us i - 1)) k = va_up an (16 * i + f) (an (16 * i + mn i - 1)) (16 * i + k)
        rw [e k hk]
        have hl := h2 (us i - 1) (by omega)
        rw [show 16 * i + (us i - 1) = 16 * i + mn i - 1 by omega] at hl
        by_cases ek : k = f
        · subst ek
          rw [va_up_self, va_up_self, va_up_self, va_up_self]
          exact hl
        · rw [va_up_ne (ps i) _ ek, va_up_ne (am i) _ ek, va_up_ne po _ (show ¬ 16 * i + k = 16 * i + f by omega), va_up_ne an _ (show ¬ 16 * i + k = 16 * i + f by omega)]
          exact h2 k (by omega)
    · rw [if_neg c4, if_neg (show ¬ (16 * i + f < 16 * i + mn i ∧ s = 0) from fun z => c4 z.2), if_neg c4, if_neg (show ¬ (16 * i + f = 16 * i + mn i ∧ mn i = 16) from fun z => by have := z.1; omega), if_neg (show ¬ 16 * i + f = 16 * i + mn i by omega)]
      refine ⟨rfl, ⟨o1, o2, o3, fun k hk => ?_⟩, h1.symm, fun k hk => ?_, fun _ _ => rfl, fun x hx => ⟨va_up_ne _ _ (by omega), va_up_ne _ _ (by omega)⟩⟩
      · show ¬ va_up (am i) f s k = 0 ∧ -1000000000000000 ≤ (va_up (am i) f s k).toInt ∧ (va_up (am i) f s k).toInt ≤ 1000000000000000
        by_cases ek : k = f
        · subst ek; rw [va_up_self]; exact ⟨c4, hsb⟩
        · rw [va_up_ne _ _ ek]; exact o4 k hk
      · show ps i k = va_up po (16 * i + f) p (16 * i + k) ∧ va_up (am i) f s k = va_up an (16 * i + f) s (16 * i + k)
        by_cases ek : k = f
        · subst ek
          rw [va_up_self, va_up_self, va_up_self]
          exact ⟨hhit c3, rfl⟩
        · rw [va_up_ne po p (show ¬ 16 * i + k = 16 * i + f by omega), va_up_ne an s (show ¬ 16 * i + k = 16 * i + f by omega), va_up_ne (am i) s ek]
          exact h2 k hk
  · rw [if_neg c3]
    have ef : f = us i := by omega
    by_cases c4 : s = 0
    · rw [if_pos c4, if_neg (show ¬ (16 * i + f < 16 * i + mn i ∧ s = 0) from fun z => by have := z.1; omega), if_pos c4]
      exact ⟨rfl, same.2, h1.symm, h2, fun _ _ => rfl, fun _ _ => ⟨rfl, rfl⟩⟩
    · rw [if_neg c4, if_neg (show ¬ (16 * i + f < 16 * i + mn i ∧ s = 0) from fun z => c4 z.2), if_neg c4]
      by_cases c5 : 16 ≤ us i
      · rw [if_pos c5, if_pos (show 16 * i + f = 16 * i + mn i ∧ mn i = 16 from ⟨by omega, by omega⟩)]
        exact ⟨rfl, same.2, h1.symm, h2, fun _ _ => rfl, fun _ _ => ⟨rfl, rfl⟩⟩
      · rw [if_neg c5, if_neg (show ¬ (16 * i + f = 16 * i + mn i ∧ mn i = 16) from fun z => by have := z.2; omega), if_pos (show 16 * i + f = 16 * i + mn i by omega)]
        have hno := hmiss c3
        refine ⟨rfl, ⟨by show us i + 1 ≤ 16; omega, fun k hk => ?_, fun x y hx hy hxy => ?_, fun k hk => ?_⟩, by show va_up mn i (mn i + 1) i = us i + 1; rw [va_up_self, h1], fun k hk => ?_, fun j hj => va_up_ne _ _ hj, fun x hx => ⟨va_up_ne _ _ (by omega), va_up_ne _ _ (by omega)⟩⟩
        · show va_up (ps i) (us i) p k < 300
          have hk : k < us i + 1 := hk
          by_cases ek : k = us i
          · subst ek; rw [va_up_self]; exact hp
          · rw [va_up_ne _ _ ek]; exact o2 _ (by omega)
        · have hx : x < us i + 1 := hx
          have hy : y < us i + 1 := hy
          have hxy : va_up (ps i) (us i) p x = va_up (ps i) (us i) p y := hxy
          by_cases ex : x = us i
          · by_cases ey : y = us i
            · rw [ex, ey]
            · rw [ex, va_up_self, va_up_ne _ _ ey] at hxy
              exact absurd hxy.symm (hno y (by omega))
          · by_cases ey : y = us i
            · rw [ey, va_up_self, va_up_ne _ _ ex] at hxy
              exact absurd hxy (hno x (by omega))
            · rw [va_up_ne _ _ ex, va_up_ne _ _ ey] at hxy
              exact o3 _ _ (by omega) (by omega) hxy
        · have hk : k < us i + 1 := hk
          show ¬ va_up (am i) (us i) s k = 0 ∧ -1000000000000000 ≤ (va_up (am i) (us i) s k).toInt ∧ (va_up (am i) (us i) s k).toInt ≤ 1000000000000000
          by_cases ek : k = us i
          · rw [ek, va_up_self]; exact ⟨c4, hsb⟩
          · rw [va_up_ne _ _ ek]; exact o4 k (by omega)
        · have hk : k < us i + 1 := hk
          show va_up (ps i) (us i) p k = va_up po (16 * i + f) p (16 * i + k) ∧ va_up (am i) (us i) s k = va_up an (16 * i + f) s (16 * i + k)
          rw [ef]
          by_cases ek : k = us i
          · subst ek
            rw [va_up_self, va_up_self, va_up_self, va_up_self]
            exact ⟨rfl, rfl⟩
          · rw [va_up_ne (ps i) _ ek, va_up_ne (am i) _ ek, va_up_ne po _ (show ¬ 16 * i + k = 16 * i + us i by omega), va_up_ne an _ (show ¬ 16 * i + k = 16 * i + us i by omega)]
            exact h2 k (by omega)
