/-! WHAT THE REFERENCE'S SEARCH COMPUTES, loop by loop, and what that is -/
abbrev psM (po : Nat → Nat) : Nat → Nat → Nat := fun i k => po (16 * i + k)
abbrev amM (am : Nat → Int64) : Nat → Nat → Int64 := fun i k => am (16 * i + k)
def mq (po : Nat → Nat) (p : Nat) : Nat → Bool := fun k => decide (po k = p)
def mfd (mn po : Nat → Nat) (i p : Nat) : Nat := fs (mq po p) (mn i) (16 * i)
def netA (mn po : Nat → Nat) (am : Nat → Int64) (i p : Nat) : Int64 := if mfd mn po i p < 16 * i + mn i then am (mfd mn po i p) else 0
def m_tot (mn po : Nat → Nat) (am va : Nat → Int64) (ch : Nat → Bool) (p : Nat) : Nat → Int64
  | 0 => va p
  | i + 1 => m_tot mn po am va ch p i + (if ch i = true then netA mn po am i p else 0)
def m_last (mn po : Nat → Nat) (am : Nat → Int64) (ch : Nat → Bool) (p : Nat) : Nat → Int32
  | 0 => -1
  | i + 1 => if ch i = true ∧ netA mn po am i p < 0 then nI i else m_last mn po am ch p i
def m_meet (mn po : Nat → Nat) (am : Nat → Int64) (a b : Nat) : Nat → Bool
  | 0 => false
  | k + 1 => m_meet mn po am a b k || (decide (am (16 * a + k) < 0) && decide (netA mn po am b (po (16 * a + k)) < 0))
def m_lack (mn po : Nat → Nat) (am : Nat → Int64) (T ch : Nat → Bool) (i : Nat) : Nat → Bool
  | 0 => false
  | j + 1 => m_lack mn po am T ch i j || (T j && (!ch j && m_meet mn po am j i (mn j)))
abbrev CB : Type := (Nat → Bool) × Bool
def m_p1 (mn po : Nat → Nat) (am va fl : Nat → Int64) (n : Nat) (ch : Nat → Bool) : Nat → CB
  | 0 => (ch, false)
  | p + 1 => if m_tot mn po am va (m_p1 mn po am va fl n ch p).1 p n < fl p then (va_up (m_p1 mn po am va fl n ch p).1 (m_last mn po am (m_p1 mn po am va fl n ch p).1 p n).toNatClampNeg false, true) else m_p1 mn po am va fl n ch p
def m_p2 (mn po : Nat → Nat) (am : Nat → Int64) (T : Nat → Bool) (σ : CB) : Nat → CB
  | 0 => σ
  | i + 1 => if (m_p2 mn po am T σ i).1 i = true ∧ m_lack mn po am T (m_p2 mn po am T σ i).1 i i = true then (va_up (m_p2 mn po am T σ i).1 i false, true) else m_p2 mn po am T σ i
def m_it (mn po : Nat → Nat) (am va fl : Nat → Int64) (n : Nat) (T ch : Nat → Bool) : CB := m_p2 mn po am T (m_p1 mn po am va fl n ch 300) n
theorem netA_v {mn po : Nat → Nat} {am : Nat → Int64} {i p : Nat} (hd : ∀ a b, a < mn i → b < mn i → psM po i a = psM po i b → a = b) : (netA mn po am i p).toInt = nvS mn (psM po) (amM am) i p := by
  have e : mfd mn po i p = 16 * i + fs (fun k => decide (psM po i k = p)) (mn i) 0 := by
    unfold mfd
    exact fs_shift (q := mq po p) (r := fun k => decide (psM po i k = p)) (16 * i) (mn i) 0 (fun j _ _ => rfl)
  have h := sl_nt (ps := psM po i) (am := amM am i) (u := mn i) (p := p) (q := fun k => decide (psM po i k = p)) hd (fun k _ => decide_eq_true_iff)
  unfold nvS
  rw [← h]
  unfold netA ntq
  rw [e]
  by_cases hlt : fs (fun k => decide (psM po i k = p)) (mn i) 0 < mn i
  · rw [if_pos hlt, if_pos (by omega)]
  · rw [if_neg hlt, if_neg (by omega)]
section MODEL
variable {mn po : Nat → Nat} {am va fl : Nat → Int64} {n : Nat} {T : Nat → Bool}
theorem m_net (h : cl_ok mn (psM po) (amM am) va fl n) {i : Nat} (hi : i < n) (p : Nat) : (netA mn po am i p).toInt = nvS mn (psM po) (amM am) i p := netA_v (h.2.1 i hi).2.2.1
theorem m_neg (h : cl_ok mn (psM po) (amM am) va fl n) {i : Nat} (hi : i < n) (p : Nat) : netA mn po am i p < 0 ↔ nvS mn (psM po) (amM am) i p < 0 := by
  rw [i64_lt, m_net h hi, Int64.toInt_zero]
theorem m_tot_v (h : cl_ok mn (psM po) (amM am) va fl n) (ch : Nat → Bool) {p : Nat} (hp : p < 300) : ∀ i, i ≤ n → (m_tot mn po am va ch p i).toInt = (va p).toInt + sm (gd_T (nvS mn (psM po) (amM am)) ch p) i := by
  intro i
  induction i with
  | zero =>
    intro _
    show (va p).toInt = (va p).toInt + 0
    omega
  | succ i ih =>
    intro hi
    have h1 := ih (by omega)
    have hb := gT_b h ch p (i := i) (by omega)
    have hv := h.2.2 p hp
    have hn := nv_b h (i := i) (by omega) p
    have e := m_net h (i := i) (by omega) p
    rw [sm_succ]
    unfold m_tot gd_T
    by_cases hc : ch i = true
    · rw [if_pos hc, if_pos hc, i64_add (by rw [h1, e]; omega) (by rw [h1, e]; omega), h1, e]
      unfold gd_T
      omega
    · rw [if_neg hc, if_neg hc, i64_add (by rw [h1, Int64.toInt_zero]; omega) (by rw [h1, Int64.toInt_zero]; omega), h1, Int64.toInt_zero]
      unfold gd_T
      omega
theorem m_last_v (h : cl_ok mn (psM po) (amM am) va fl n) (ch : Nat → Bool) (p : Nat) : ∀ i, i ≤ n → (∀ t, t < i → ch t = true → nvS mn (psM po) (amM am) t p < 0 → False) ∨ ∃ t, t < i ∧ ch t = true ∧ nvS mn (psM po) (amM am) t p < 0 ∧ m_last mn po am ch p i = nI t ∧ ∀ j, t < j → j < i → ch j = true → nvS mn (psM po) (amM am) j p < 0 → False := by
  intro i
  induction i with
  | zero => intro _; exact Or.inl (fun t ht => absurd ht (Nat.not_lt_zero t))
  | succ i ih =>
    intro hi
    unfold m_last
    by_cases hc : ch i = true ∧ netA mn po am i p < 0
    · rw [if_pos hc]
      exact Or.inr ⟨i, Nat.lt_succ_self i, hc.1, (m_neg h (by omega) p).mp hc.2, rfl, fun j h1 h2 => absurd h1 (by omega)⟩
    · rw [if_neg hc]
      have hno : ch i = true → nvS mn (psM po) (amM am) i p < 0 → False := fun a b => hc ⟨a, (m_neg h (by omega) p).mpr b⟩
      rcases ih (by omega) with h1 | ⟨t, ht, a1, a2, a3, a4⟩
      · refine Or.inl (fun t ht => ?_)
        by_cases e : t = i
        · subst e; exact hno
        · exact h1 t (by omega)
      · refine Or.inr ⟨t, by omega, a1, a2, a3, fun j h1 h2 => ?_⟩
        by_cases e : j = i
        · subst e; exact hno
        · exact a4 j h1 (by omega)
/-- below its floor: the last taker is an item of the set -/
theorem m_last_in (h : cl_ok mn (psM po) (amM am) va fl n) (ch : Nat → Bool) {p : Nat} (hp : p < 300) (hlow : m_tot mn po am va ch p n < fl p) : ∃ t, t < n ∧ ch t = true ∧ nvS mn (psM po) (amM am) t p < 0 ∧ m_last mn po am ch p n = nI t ∧ ∀ j, t < j → j < n → ch j = true → nvS mn (psM po) (amM am) j p < 0 → False := by
  rcases m_last_v h ch p n (Nat.le_refl n) with h1 | h1
  · rw [i64_lt, m_tot_v h ch hp n (Nat.le_refl n)] at hlow
    exact (gd_taker (va := iV va) (fl := iV fl) (h.2.2 p hp).2.1 hlow h1).elim
  · exact h1
theorem m_meet_v (h : cl_ok mn (psM po) (amM am) va fl n) {a b : Nat} (hb : b < n) : ∀ k, (m_meet mn po am a b k = true ↔ ∃ j, j < k ∧ (amM am a j).toInt < 0 ∧ nvS mn (psM po) (amM am) b (psM po a j) < 0) := by
  intro k
  induction k with
  | zero => exact ⟨fun z => (by cases z), fun ⟨j, hj, _⟩ => absurd hj (Nat.not_lt_zero j)⟩
  | succ k ih =>
    unfold m_meet
    rw [Bool.or_eq_true, ih, Bool.and_eq_true, decide_eq_true_iff, decide_eq_true_iff, m_neg h hb, i64_lt, Int64.toInt_zero]
    constructor
    · intro z
      rcases z with ⟨j, hj, z⟩ | z
      · exact ⟨j, by omega, z⟩
      · exact ⟨k, Nat.lt_succ_self k, z⟩
    · intro ⟨j, hj, z⟩
      by_cases e : j = k
      · subst e; exact Or.inr z
      · exact Or.inl ⟨j, by omega, z⟩
theorem m_meet_u (h : cl_ok mn (psM po) (amM am) va fl n) {a b : Nat} (ha : a < n) (hb : b < n) : m_meet mn po am a b (mn a) = true ↔ ∃ q, q < 300 ∧ nvS mn (psM po) (amM am) a q < 0 ∧ nvS mn (psM po) (amM am) b q < 0 := by
  have hok := h.2.1 a ha
  rw [m_meet_v h hb]
  constructor
  · intro ⟨j, hj, z1, z2⟩
    refine ⟨psM po a j, hok.2.1 j hj, ?_, z2⟩
    unfold nvS
    rw [sl_at hok.2.2.1 hj]
    exact z1
  · intro ⟨q, hq, z1, z2⟩
    obtain ⟨k, hk, e⟩ := sl_hit (ps := psM po a) (am := amM am a) (u := mn a) (p := q) (fun z => by
      have : nvS mn (psM po) (amM am) a q = 0 := z
      omega)
    refine ⟨k, hk, ?_, by rw [e]; exact z2⟩
    have z1 : sl_v (psM po a) (amM am a) (mn a) q < 0 := z1
    rw [← e, sl_at hok.2.2.1 hk] at z1
    exact z1
theorem m_lack_v (h : cl_ok mn (psM po) (amM am) va fl n) (ch : Nat → Bool) {i : Nat} (hi : i < n) : ∀ j, j ≤ i → (m_lack mn po am T ch i j = true ↔ ∃ k, k < j ∧ T k = true ∧ ch k = false ∧ ∃ q, q < 300 ∧ nvS mn (psM po) (amM am) k q < 0 ∧ nvS mn (psM po) (amM am) i q < 0) := by
  intro j
  induction j with
  | zero => intro _; exact ⟨fun z => (by cases z), fun ⟨j, hj, _⟩ => absurd hj (Nat.not_lt_zero j)⟩
  | succ j ih =>
    intro hj
    unfold m_lack
    rw [Bool.or_eq_true, ih (by omega), Bool.and_eq_true, Bool.and_eq_true, m_meet_u h (by omega) hi, Bool.not_eq_true']
    constructor
    · intro z
      rcases z with ⟨k, hk, z⟩ | ⟨z1, z2, z3⟩
      · exact ⟨k, by omega, z⟩
      · exact ⟨j, Nat.lt_succ_self j, z1, z2, z3⟩
    · intro ⟨k, hk, z⟩
      by_cases e : k = j
      · subst e; exact Or.inr ⟨z.1, z.2.1, z.2.2⟩
      · exact Or.inl ⟨k, by omega, z⟩
/-- what holds of the reference's set at all times -/
def ms_inv (mn po : Nat → Nat) (am va fl : Nat → Int64) (n : Nat) (T ch : Nat → Bool) : Prop := (∀ k, k < n → ch k = true → T k = true) ∧ gd_sub n T (nvS mn (psM po) (amM am)) (iV va) (iV fl) ch ∧ ∀ k, n ≤ k → ch k = false
theorem ms_off {ch : Nat → Bool} {t : Nat} (I : ms_inv mn po am va fl n T ch) (hs : gd_sub n T (nvS mn (psM po) (amM am)) (iV va) (iV fl) (va_up ch t false)) : ms_inv mn po am va fl n T (va_up ch t false) := by
  refine ⟨fun k hk hc => ?_, hs, fun k hk => ?_⟩
  · by_cases e : k = t
    · subst e; rw [va_up_self] at hc; cases hc
    · rw [va_up_ne _ _ e] at hc; exact I.1 k hk hc
  · by_cases e : k = t
    · subst e; rw [va_up_self]
    · rw [va_up_ne _ _ e]; exact I.2.2 k hk
theorem m_p1_v (h : cl_ok mn (psM po) (amM am) va fl n) {ch : Nat → Bool} (I : ms_inv mn po am va fl n T ch) : ∀ p, p ≤ 300 → ms_inv mn po am va fl n T (m_p1 mn po am va fl n ch p).1 ∧ ((m_p1 mn po am va fl n ch p).2 = false → (m_p1 mn po am va fl n ch p).1 = ch ∧ ∀ q, q < p → (fl q).toInt ≤ (va q).toInt + sm (gd_T (nvS mn (psM po) (amM am)) ch q) n) ∧ cn (m_p1 mn po am va fl n ch p).1 n ≤ cn ch n ∧ ((m_p1 mn po am va fl n ch p).2 = true → cn (m_p1 mn po am va fl n ch p).1 n < cn ch n) := by
  intro p
  induction p with
  | zero => intro _; exact ⟨I, fun _ => ⟨rfl, fun q hq => absurd hq (Nat.not_lt_zero q)⟩, Nat.le_refl _, fun z => (by cases z)⟩
  | succ p ih =>
    intro hp
    obtain ⟨h1, h2, h3, h4⟩ := ih (by omega)
    unfold m_p1
    generalize hσ : m_p1 mn po am va fl n ch p = σ at h1 h2 h3 h4 ⊢
    by_cases hlow : m_tot mn po am va σ.1 p n < fl p
    · rw [if_pos hlow]
      obtain ⟨t, ht, a1, a2, a3, a4⟩ := m_last_in h σ.1 (by omega) hlow
      have e : (m_last mn po am σ.1 p n).toNatClampNeg = t := by rw [a3, nI_clamp (by have := h.1; omega)]
      rw [e]
      have hl := hlow
      rw [i64_lt, m_tot_v h σ.1 (by omega) n (Nat.le_refl n)] at hl
      have hc := cn_off n ht a1
      refine ⟨ms_off h1 (gd_last h1.1 h1.2.1 (show p < 300 by omega) hl ht a2 a4), fun z => (by cases z), ?_, fun _ => ?_⟩
      · show cn (va_up σ.1 t false) n ≤ cn ch n
        omega
      · show cn (va_up σ.1 t false) n < cn ch n
        omega
    · rw [if_neg hlow]
      refine ⟨h1, fun z => ?_, h3, h4⟩
      obtain ⟨b1, b2⟩ := h2 z
      refine ⟨b1, fun q hq => ?_⟩
      by_cases e : q = p
      · subst e
        rw [i64_lt, m_tot_v h σ.1 (by omega) n (Nat.le_refl n), b1] at hlow
        omega
      · exact b2 q (by omega)
theorem m_p2_v (h : cl_ok mn (psM po) (amM am) va fl n) {σ : CB} (I : ms_inv mn po am va fl n T σ.1) : ∀ i, i ≤ n → ms_inv mn po am va fl n T (m_p2 mn po am T σ i).1 ∧ ((m_p2 mn po am T σ i).2 = false → σ.2 = false ∧ (m_p2 mn po am T σ i).1 = σ.1 ∧ ∀ k, k < i → σ.1 k = true → m_lack mn po am T σ.1 k k = false) ∧ cn (m_p2 mn po am T σ i).1 n ≤ cn σ.1 n ∧ ((m_p2 mn po am T σ i).2 = true → σ.2 = true ∨ cn (m_p2 mn po am T σ i).1 n < cn σ.1 n) := by
  intro i
  induction i with
  | zero => intro _; exact ⟨I, fun z => ⟨z, rfl, fun k hk => absurd hk (Nat.not_lt_zero k)⟩, Nat.le_refl _, fun z => Or.inl z⟩
  | succ i ih =>
    intro hi
    obtain ⟨h1, h2, h3, h4⟩ := ih (by omega)
    unfold m_p2
    generalize hτ : m_p2 mn po am T σ i = τ at h1 h2 h3 h4 ⊢
    by_cases hc : τ.1 i = true ∧ m_lack mn po am T τ.1 i i = true
    · rw [if_pos hc]
      obtain ⟨k, hk, z1, z2, q, hq, z3, z4⟩ := (m_lack_v h τ.1 (show i < n by omega) i (Nat.le_refl i)).mp hc.2
      have ho := cn_off n (show i < n by omega) hc.1
      refine ⟨ms_off h1 (gd_lack h1.2.1 hq (show i < n by omega) hk z1 (by rw [z2]; decide) z4 z3), fun z => (by cases z), ?_, fun _ => Or.inr ?_⟩
      · show cn (va_up τ.1 i false) n ≤ cn σ.1 n
        omega
      · show cn (va_up τ.1 i false) n < cn σ.1 n
        omega
    · rw [if_neg hc]
      refine ⟨h1, fun z => ?_, h3, h4⟩
      obtain ⟨b0, b1, b2⟩ := h2 z
      refine ⟨b0, b1, fun k hk hs => ?_⟩
      by_cases e : k = i
      · subst e
        rw [b1] at hc
        cases hz : m_lack mn po am T σ.1 k k with
        | false => rfl
        | true => exact absurd ⟨hs, hz⟩ hc
      · exact b2 k (by omega) hs
/-- one round of the reference's search -/
theorem m_it_v (h : cl_ok mn (psM po) (amM am) va fl n) {ch : Nat → Bool} (I : ms_inv mn po am va fl n T ch) : ms_inv mn po am va fl n T (m_it mn po am va fl n T ch).1 ∧ ((m_it mn po am va fl n T ch).2 = false → gd_good n T (nvS mn (psM po) (amM am)) (iV va) (iV fl) (m_it mn po am va fl n T ch).1) ∧ ((m_it mn po am va fl n T ch).2 = true → cn (m_it mn po am va fl n T ch).1 n < cn ch n) := by
  obtain ⟨h1, h2, h3, h4⟩ := m_p1_v h I 300 (Nat.le_refl 300)
  have hh := m_p2_v h (σ := m_p1 mn po am va fl n ch 300) h1 n (Nat.le_refl n)
  unfold m_it
  generalize m_p1 mn po am va fl n ch 300 = σ at h1 h2 h3 h4 hh ⊢
  obtain ⟨k1, k2, k3, k4⟩ := hh
  generalize m_p2 mn po am T σ n = τ at k1 k2 k3 k4 ⊢
  refine ⟨k1, fun z => ?_, fun z => ?_⟩
  · obtain ⟨b0, b1, b2⟩ := k2 z
    obtain ⟨c1, c2⟩ := h2 b0
    rw [b1, c1]
    rw [c1] at b2
    refine gd_done I.1 c2 (fun i hi hs j hj hT hcj q hq n1 n2 => ?_)
    have := b2 i hi hs
    rw [(m_lack_v h ch hi i (Nat.le_refl i)).mpr ⟨j, hj, hT, hcj, q, hq, n2, n1⟩] at this
    cases this
  · rcases k4 z with k | k
    · have := h4 k; omega
    · omega
end MODEL
