/-! SLOTS: an item's nets in slots; the first slot of a position; what the slots say of a position -/
def bI (b : Bool) : Int32 := if b = true then 1 else 0
theorem bI_t : bI true = 1 := rfl
theorem bI_f : bI false = 0 := rfl
theorem bI_z (b : Bool) : (bI b = 0) ↔ b = false := by cases b <;> decide
theorem bI_nz (b : Bool) : (¬ bI b = 0) ↔ b = true := by cases b <;> decide
theorem bI_nar (b : Bool) : vp_nar .boolean (bI b) = bI b := by cases b <;> decide
theorem bI_narrow (b : Bool) : narrow .boolean (.int (bI b)) = .int (bI b) := by cases b <;> decide
theorem bI_fits (b : Bool) : fits .boolean (.int (bI b)) = true := by cases b <;> decide
theorem bI_inj {a b : Bool} : bI a = bI b ↔ a = b := by cases a <;> cases b <;> decide
/-- the first place from k on, of n, that q says; else the end -/
def fs (q : Nat → Bool) : Nat → Nat → Nat
  | 0, k => k
  | n + 1, k => if q k = true then k else fs q n (k + 1)
theorem fs_ge (q : Nat → Bool) : ∀ n k : Nat, k ≤ fs q n k := by
  intro n
  induction n with
  | zero => intro k; exact Nat.le_refl k
  | succ n ih =>
    intro k
    unfold fs
    split
    · exact Nat.le_refl k
    · exact Nat.le_trans (Nat.le_succ k) (ih (k + 1))
theorem fs_le (q : Nat → Bool) : ∀ n k : Nat, fs q n k ≤ k + n := by
  intro n
  induction n with
  | zero => intro k; exact Nat.le_refl k
  | succ n ih =>
    intro k
    unfold fs
    split
    · omega
    · have := ih (k + 1); omega
theorem fs_hit (q : Nat → Bool) : ∀ n k : Nat, fs q n k < k + n → q (fs q n k) = true := by
  intro n
  induction n with
  | zero => intro k h; exact absurd h (by unfold fs; omega)
  | succ n ih =>
    intro k h
    unfold fs at h ⊢
    by_cases e : q k = true
    · rw [if_pos e]; exact e
    · rw [if_neg e] at h ⊢
      exact ih (k + 1) (by omega)
theorem fs_miss (q : Nat → Bool) : ∀ n k j : Nat, k ≤ j → j < fs q n k → q j = false := by
  intro n
  induction n with
  | zero => intro k j h1 h2; unfold fs at h2; omega
  | succ n ih =>
    intro k j h1 h2
    unfold fs at h2
    by_cases e : q k = true
    · rw [if_pos e] at h2; omega
    · rw [if_neg e] at h2
      by_cases ej : j = k
      · subst ej
        cases hq : q j with
        | false => rfl
        | true => exact absurd hq e
      · exact ih (k + 1) j (by omega) h2
theorem fs_congr {q r : Nat → Bool} : ∀ n k : Nat, (∀ j, k ≤ j → j < k + n → q j = r j) → fs q n k = fs r n k := by
  intro n
  induction n with
  | zero => intro k _; rfl
  | succ n ih =>
    intro k h
    unfold fs
    rw [h k (Nat.le_refl k) (by omega), ih (k + 1) (fun j h1 h2 => h j (by omega) (by omega))]
/-- moved by an offset -/
theorem fs_shift {q r : Nat → Bool} (o : Nat) : ∀ n k : Nat, (∀ j, k ≤ j → j < k + n → q (o + j) = r j) → fs q n (o + k) = o + fs r n k := by
  intro n
  induction n with
  | zero => intro k _; rfl
  | succ n ih =>
    intro k h
    unfold fs
    rw [h k (Nat.le_refl k) (by omega)]
    by_cases e : r k = true
    · rw [if_pos e, if_pos e]
    · rw [if_neg e, if_neg e]
      exact ih (k + 1) (fun j h1 h2 => h j (by omega) (by omega))
/-- the net that the slots say -/
def ntq (q : Nat → Bool) (u : Nat) (am : Nat → Int64) : Int64 := if fs q u 0 < u then am (fs q u 0) else 0
def sl_v (ps : Nat → Nat) (am : Nat → Int64) (u p : Nat) : Int := sm (fun k => if ps k = p then (am k).toInt else 0) u
def sl_ok (ps : Nat → Nat) (am : Nat → Int64) (u : Nat) : Prop := u ≤ 16 ∧ (∀ k, k < u → ps k < 300) ∧ (∀ a b, a < u → b < u → ps a = ps b → a = b) ∧ ∀ k, k < u → ¬ am k = 0 ∧ -1000000000000000 ≤ (am k).toInt ∧ (am k).toInt ≤ 1000000000000000
theorem sl_F {ps : Nat → Nat} {g : Nat → Int} {u p : Nat} (F : Int → Int) (h0 : F 0 = 0) (hd : ∀ a b, a < u → b < u → ps a = ps b → a = b) : sm (fun k => if ps k = p then F (g k) else 0) u = F (sm (fun k => if ps k = p then g k else 0) u) := by
  by_cases h : ∃ k, k < u ∧ ps k = p
  · obtain ⟨k, hk, e⟩ := h
    have h1 : ∀ f : Nat → Int, sm (fun j => if ps j = p then f j else 0) u = f k := by
      intro f
      rw [← sm_single (f := f) u hk]
      refine sm_congr (fun j hj => ?_)
      by_cases ej : j = k
      · subst ej; rw [if_pos e, if_pos rfl]
      · rw [if_neg ej, if_neg (fun q => ej (hd j k hj hk (by rw [q, e])))]
    rw [h1, h1]
  · have hn : ∀ k, k < u → ¬ ps k = p := fun k hk q => h ⟨k, hk, q⟩
    rw [sm_zero (fun k hk => if_neg (hn k hk)), sm_zero (fun k hk => if_neg (hn k hk)), h0]
theorem sl_at {ps : Nat → Nat} {am : Nat → Int64} {u k : Nat} (hd : ∀ a b, a < u → b < u → ps a = ps b → a = b) (hk : k < u) : sl_v ps am u (ps k) = (am k).toInt := by
  unfold sl_v
  rw [← sm_single (f := fun j => (am j).toInt) u hk]
  refine sm_congr (fun j hj => ?_)
  by_cases ej : j = k
  · subst ej; rw [if_pos rfl, if_pos rfl]
  · rw [if_neg ej, if_neg (fun q => ej (hd j k hj hk q))]
theorem sl_none {ps : Nat → Nat} {am : Nat → Int64} {u p : Nat} (h : ∀ k, k < u → ¬ ps k = p) : sl_v ps am u p = 0 := sm_zero (fun k hk => if_neg (h k hk))
theorem sl_nt {ps : Nat → Nat} {am : Nat → Int64} {u p : Nat} {q : Nat → Bool} (hd : ∀ a b, a < u → b < u → ps a = ps b → a = b) (hq : ∀ k, k < u → (q k = true ↔ ps k = p)) : (ntq q u am).toInt = sl_v ps am u p := by
  unfold ntq
  have h1 := fs_le q u 0
  by_cases h : fs q u 0 < u
  · rw [if_pos h]
    have h2 := (hq _ h).mp (fs_hit q u 0 (by omega))
    rw [← h2, sl_at hd h]
  · rw [if_neg h, sl_none (fun k hk e => ?_)]
    · rfl
    · have := fs_miss q u 0 k (Nat.zero_le k) (by omega)
      rw [(hq k hk).mpr e] at this
      cases this
theorem sl_bound {ps : Nat → Nat} {am : Nat → Int64} {u p : Nat} (h : sl_ok ps am u) : -1000000000000000 ≤ sl_v ps am u p ∧ sl_v ps am u p ≤ 1000000000000000 := by
  by_cases hx : ∃ k, k < u ∧ ps k = p
  · obtain ⟨k, hk, e⟩ := hx
    rw [← e, sl_at h.2.2.1 hk]
    exact (h.2.2.2 k hk).2
  · rw [sl_none (fun k hk q => hx ⟨k, hk, q⟩)]
    omega
theorem sl_hit {ps : Nat → Nat} {am : Nat → Int64} {u p : Nat} (h : ¬ sl_v ps am u p = 0) : ∃ k, k < u ∧ ps k = p := by
  apply Classical.byContradiction
  intro hx
  exact h (sl_none (fun k hk q => hx ⟨k, hk, q⟩))
theorem sl_congr {ps ps' : Nat → Nat} {am am' : Nat → Int64} {u p : Nat} (h1 : ∀ k, k < u → ps k = ps' k) (h2 : ∀ k, k < u → am k = am' k) : sl_v ps am u p = sl_v ps' am' u p := sm_congr (fun k hk => by rw [h1 k hk, h2 k hk])
theorem i64_add {a b : Int64} (h1 : -9223372036854775808 ≤ a.toInt + b.toInt) (h2 : a.toInt + b.toInt < 9223372036854775808) : (a + b).toInt = a.toInt + b.toInt := by
  rw [Int64.toInt_add]
  exact Int.bmod_eq_of_le (by omega) (by omega)
theorem i64_z {a : Int64} : a = 0 ↔ a.toInt = 0 := by
  rw [← Int64.toInt_inj]
  exact Iff.rfl
theorem i64_lt {a b : Int64} : a < b ↔ a.toInt < b.toInt := Int64.lt_iff_toInt_lt
theorem i64_le {a b : Int64} : a ≤ b ↔ a.toInt ≤ b.toInt := Int64.le_iff_toInt_le
/-- a sum of at most 200 parts of at most 10^15 -/
theorem sm_bound {f : Nat → Int} {n : Nat} (h : ∀ k, k < n → -1000000000000000 ≤ f k ∧ f k ≤ 1000000000000000) : -(1000000000000000 * (n : Int)) ≤ sm f n ∧ sm f n ≤ 1000000000000000 * (n : Int) := by
  induction n with
  | zero => exact ⟨by simp [sm], by simp [sm]⟩
  | succ n ih =>
    have h1 := ih (fun k hk => h k (Nat.lt_succ_of_lt hk))
    have h2 := h n (Nat.lt_succ_self n)
    rw [sm_succ]
    omega
