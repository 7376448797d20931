/-! the rest that the methods compute: the reference's perform and start, the class's end of items -/
def m_pv (mn po : Nat → Nat) (am : Nat → Int64) (ch : Nat → Bool) (n : Nat) (va : Nat → Int64) : Nat → Nat → Int64
  | 0 => va
  | p + 1 => va_up (m_pv mn po am ch n va p) p (m_tot mn po am (m_pv mn po am ch n va p) ch p n)
theorem m_tot_congr {mn po : Nat → Nat} {am va va2 : Nat → Int64} {ch : Nat → Bool} {p : Nat} (h : va p = va2 p) : ∀ i, m_tot mn po am va ch p i = m_tot mn po am va2 ch p i := by
  intro i
  induction i with
  | zero => exact h
  | succ i ih => unfold m_tot; rw [ih]
theorem m_pv_at {mn po : Nat → Nat} {am : Nat → Int64} {ch : Nat → Bool} {n : Nat} {va : Nat → Int64} : ∀ k p : Nat, (p < k → m_pv mn po am ch n va k p = m_tot mn po am va ch p n) ∧ (k ≤ p → m_pv mn po am ch n va k p = va p) := by
  intro k
  induction k with
  | zero => intro p; exact ⟨fun h => absurd h (Nat.not_lt_zero p), fun _ => rfl⟩
  | succ k ih =>
    intro p
    unfold m_pv
    constructor
    · intro h
      by_cases e : p = k
      · subst e
        rw [va_up_self]
        exact m_tot_congr ((ih p).2 (Nat.le_refl p)) n
      · rw [va_up_ne _ _ e]; exact (ih p).1 (by omega)
    · intro h
      rw [va_up_ne _ _ (by omega)]
      exact (ih p).2 (by omega)
def m_nt (ch th : Nat → Bool) : Nat → Nat → Bool
  | 0 => th
  | i + 1 => va_up (m_nt ch th i) i (m_nt ch th i i && !ch i)
theorem m_nt_at {ch th : Nat → Bool} : ∀ k p : Nat, (p < k → m_nt ch th k p = (th p && !ch p)) ∧ (k ≤ p → m_nt ch th k p = th p) := by
  intro k
  induction k with
  | zero => intro p; exact ⟨fun h => absurd h (Nat.not_lt_zero p), fun _ => rfl⟩
  | succ k ih =>
    intro p
    unfold m_nt
    constructor
    · intro h
      by_cases e : p = k
      · subst e
        rw [va_up_self, (ih p).2 (Nat.le_refl p)]
      · rw [va_up_ne _ _ e]; exact (ih p).1 (by omega)
    · intro h
      rw [va_up_ne _ _ (by omega)]
      exact (ih p).2 (by omega)
def d_en (S T : Nat → Bool) : Nat → Nat → Bool
  | 0 => T
  | i + 1 => if S i = true then va_up (d_en S T i) i false else d_en S T i
theorem d_en_at {S T : Nat → Bool} : ∀ k p : Nat, (p < k → d_en S T k p = (T p && !S p)) ∧ (k ≤ p → d_en S T k p = T p) := by
  intro k
  induction k with
  | zero => intro p; exact ⟨fun h => absurd h (Nat.not_lt_zero p), fun _ => rfl⟩
  | succ k ih =>
    intro p
    unfold d_en
    constructor
    · intro h
      by_cases e : p = k
      · subst e
        cases hs : S p with
        | true => rw [if_pos rfl, va_up_self]; simp
        | false => rw [if_neg (by decide), (ih p).2 (Nat.le_refl p)]; simp
      · by_cases hs : S k = true
        · rw [if_pos hs, va_up_ne _ _ e]; exact (ih p).1 (by omega)
        · rw [if_neg hs]; exact (ih p).1 (by omega)
    · intro h
      by_cases hs : S k = true
      · rw [if_pos hs, va_up_ne _ _ (by omega)]; exact (ih p).2 (by omega)
      · rw [if_neg hs]; exact (ih p).2 (by omega)
theorem st_s_out (T S : Nat → Bool) : ∀ k p : Nat, k ≤ p → st_s T S k p = S p := by
  intro k
  induction k with
  | zero => intro p _; rfl
  | succ k ih =>
    intro p h
    unfold st_s
    rw [va_up_ne _ _ (by omega)]
    exact ih p (by omega)
/-- the reference's start of its search -/
theorem ms_start {mn po : Nat → Nat} {am va fl : Nat → Int64} {n : Nat} {T S : Nat → Bool} (hn : n ≤ 200) (hT : ∀ i, n ≤ i → T i = false) (hS : ∀ i, n ≤ i → S i = false) : ms_inv mn po am va fl n T (st_s T S 200) := by
  refine ⟨fun k hk h => ?_, fun G hG i hi hg => ?_, fun k hk => ?_⟩
  · rw [st_s_at T S 200 k (by omega)] at h; exact h
  · rw [st_s_at T S 200 i (by omega)]; exact hG.1 i hi hg
  · by_cases h : k < 200
    · rw [st_s_at T S 200 k h]; exact hT k hk
    · rw [st_s_out T S 200 k (by omega)]; exact hS k hk
