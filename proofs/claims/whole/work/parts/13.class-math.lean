/-! WHAT THE CLASS'S SEARCH COMPUTES, loop by loop, and what that is -/
def posI (x : Int) : Int := if 0 < x then x else 0
def negI (x : Int) : Int := if x < 0 then x else 0
/-- one item's slots: given, taken, blocked -/
def gv_in (p : Nat → Nat) (a af : Nat → Int64) : Nat → Nat → Int64
  | 0 => af
  | k + 1 => if 0 < a k then va_up (gv_in p a af k) (p k) (gv_in p a af k (p k) + a k) else gv_in p a af k
def tk_in (p : Nat → Nat) (a af : Nat → Int64) : Nat → Nat → Int64
  | 0 => af
  | k + 1 => if a k < 0 then va_up (tk_in p a af k) (p k) (tk_in p a af k (p k) + a k) else tk_in p a af k
def bk_in (p : Nat → Nat) (a : Nat → Int64) (bl : Nat → Bool) : Nat → Nat → Bool
  | 0 => bl
  | k + 1 => if a k < 0 then va_up (bk_in p a bl k) (p k) true else bk_in p a bl k
def gv_out (us : Nat → Nat) (ps : Nat → Nat → Nat) (am : Nat → Nat → Int64) (S : Nat → Bool) (af : Nat → Int64) : Nat → Nat → Int64
  | 0 => af
  | i + 1 => if S i = true then gv_in (ps i) (am i) (gv_out us ps am S af i) (us i) else gv_out us ps am S af i
/-- the rows anew -/
def sr_a (va af : Nat → Int64) : Nat → Nat → Int64
  | 0 => af
  | k + 1 => va_up (sr_a va af k) k (va k)
def sr_b (bl : Nat → Bool) : Nat → Nat → Bool
  | 0 => bl
  | k + 1 => va_up (sr_b bl k) k false
/-- all that are there -/
def st_s (T S : Nat → Bool) : Nat → Nat → Bool
  | 0 => S
  | k + 1 => va_up (st_s T S k) k (T k)
def ct_at (p : Nat → Nat) (a fl af : Nat → Int64) (bl : Nat → Bool) (k : Nat) : Bool := decide (a k < 0) && (bl (p k) || decide (af (p k) + a k < fl (p k)))
def ct (p : Nat → Nat) (a : Nat → Int64) (u : Nat) (fl af : Nat → Int64) (bl : Nat → Bool) : Bool := decide (∀ k, k < u → ct_at p a fl af bl k = false)
/-- the set, the row after, the row blocked, how many -/
abbrev DS : Type := (Nat → Bool) × (Nat → Int64) × (Nat → Bool) × Nat
def dh_step (us : Nat → Nat) (ps : Nat → Nat → Nat) (am : Nat → Nat → Int64) (T : Nat → Bool) (fl : Nat → Int64) (i : Nat) (σ : DS) : DS :=
  if T i = true then
    (if σ.1 i = true ∧ ct (ps i) (am i) (us i) fl σ.2.1 σ.2.2.1 = true then (σ.1, tk_in (ps i) (am i) σ.2.1 (us i), σ.2.2.1, σ.2.2.2)
     else (va_up σ.1 i false, σ.2.1, bk_in (ps i) (am i) σ.2.2.1 (us i), if σ.1 i = true then σ.2.2.2 - 1 else σ.2.2.2))
  else σ
def dh (us : Nat → Nat) (ps : Nat → Nat → Nat) (am : Nat → Nat → Int64) (T : Nat → Bool) (fl : Nat → Int64) (σ : DS) : Nat → DS
  | 0 => σ
  | i + 1 => dh_step us ps am T fl i (dh us ps am T fl σ i)
def swp (us : Nat → Nat) (ps : Nat → Nat → Nat) (am : Nat → Nat → Int64) (T : Nat → Bool) (va fl : Nat → Int64) (n : Nat) (σ : DS) : DS :=
  dh us ps am T fl (σ.1, gv_out us ps am σ.1 (sr_a va σ.2.1 300) n, sr_b σ.2.2.1 300, σ.2.2.2) n
def fg (us : Nat → Nat) (ps : Nat → Nat → Nat) (am : Nat → Nat → Int64) (T : Nat → Bool) (va fl : Nat → Int64) (n : Nat) : Nat → DS → DS
  | 0, σ => σ
  | f + 1, σ => if (swp us ps am T va fl n σ).2.2.2 < σ.2.2.2 then fg us ps am T va fl n f (swp us ps am T va fl n σ) else swp us ps am T va fl n σ
theorem sr_a_at (va af : Nat → Int64) : ∀ k p : Nat, p < k → sr_a va af k p = va p := by
  intro k
  induction k with
  | zero => intro p h; exact absurd h (Nat.not_lt_zero p)
  | succ k ih =>
    intro p h
    unfold sr_a
    by_cases e : p = k
    · subst e; rw [va_up_self]
    · rw [va_up_ne _ _ e]; exact ih p (by omega)
theorem sr_b_at (bl : Nat → Bool) : ∀ k p : Nat, p < k → sr_b bl k p = false := by
  intro k
  induction k with
  | zero => intro p h; exact absurd h (Nat.not_lt_zero p)
  | succ k ih =>
    intro p h
    unfold sr_b
    by_cases e : p = k
    · subst e; rw [va_up_self]
    · rw [va_up_ne _ _ e]; exact ih p (by omega)
theorem st_s_at (T S : Nat → Bool) : ∀ k p : Nat, p < k → st_s T S k p = T p := by
  intro k
  induction k with
  | zero => intro p h; exact absurd h (Nat.not_lt_zero p)
  | succ k ih =>
    intro p h
    unfold st_s
    by_cases e : p = k
    · subst e; rw [va_up_self]
    · rw [va_up_ne _ _ e]; exact ih p (by omega)
theorem posI_b {x : Int} (h : -1000000000000000 ≤ x ∧ x ≤ 1000000000000000) : -1000000000000000 ≤ posI x ∧ posI x ≤ 1000000000000000 := by
  unfold posI; split <;> omega
theorem negI_b {x : Int} (h : -1000000000000000 ≤ x ∧ x ≤ 1000000000000000) : -1000000000000000 ≤ negI x ∧ negI x ≤ 1000000000000000 := by
  unfold negI; split <;> omega
theorem gv_in_v {p : Nat → Nat} {a af : Nat → Int64} {u q : Nat} (hu : u ≤ 16) (ha : ∀ k, k < u → -1000000000000000 ≤ (a k).toInt ∧ (a k).toInt ≤ 1000000000000000) (haf : -5000000000000000000 ≤ (af q).toInt ∧ (af q).toInt ≤ 5000000000000000000) : ∀ k, k ≤ u → (gv_in p a af k q).toInt = (af q).toInt + sm (fun j => if p j = q then posI (a j).toInt else 0) k := by
  intro k
  induction k with
  | zero =>
    intro _
    show (af q).toInt = (af q).toInt + 0
    omega
  | succ k ih =>
    intro hk
    have h1 := ih (by omega)
    have hb := sm_bound (f := fun j => if p j = q then posI (a j).toInt else 0) (n := k) (fun j hj => by
      show -1000000000000000 ≤ (if p j = q then posI (a j).toInt else 0) ∧ (if p j = q then posI (a j).toInt else 0) ≤ 1000000000000000
      split
      · exact posI_b (ha j (by omega))
      · omega)
    have hk1 := ha k (by omega)
    rw [sm_succ]
    unfold gv_in
    by_cases hpos : 0 < a k
    · rw [if_pos hpos]
      have hp' : 0 < (a k).toInt := by
        have := i64_lt.mp hpos
        rw [Int64.toInt_zero] at this
        exact this
      by_cases e : q = p k
      · subst e
        rw [va_up_self, if_pos rfl, i64_add (by omega) (by omega), h1]
        unfold posI
        rw [if_pos hp']
        omega
      · rw [va_up_ne _ _ e, if_neg (fun z => e z.symm), h1]
        omega
    · rw [if_neg hpos, h1]
      have hp' : ¬ 0 < (a k).toInt := fun z => hpos (i64_lt.mpr (by rw [Int64.toInt_zero]; exact z))
      by_cases e : p k = q
      · rw [if_pos e]; unfold posI; rw [if_neg hp']; omega
      · rw [if_neg e]; omega
theorem tk_in_v {p : Nat → Nat} {a af : Nat → Int64} {u q : Nat} (hu : u ≤ 16) (ha : ∀ k, k < u → -1000000000000000 ≤ (a k).toInt ∧ (a k).toInt ≤ 1000000000000000) (haf : -5000000000000000000 ≤ (af q).toInt ∧ (af q).toInt ≤ 5000000000000000000) : ∀ k, k ≤ u → (tk_in p a af k q).toInt = (af q).toInt + sm (fun j => if p j = q then negI (a j).toInt else 0) k := by
  intro k
  induction k with
  | zero =>
    intro _
    show (af q).toInt = (af q).toInt + 0
    omega
  | succ k ih =>
    intro hk
    have h1 := ih (by omega)
    have hb := sm_bound (f := fun j => if p j = q then negI (a j).toInt else 0) (n := k) (fun j hj => by
      show -1000000000000000 ≤ (if p j = q then negI (a j).toInt else 0) ∧ (if p j = q then negI (a j).toInt else 0) ≤ 1000000000000000
      split
      · exact negI_b (ha j (by omega))
      · omega)
    have hk1 := ha k (by omega)
    rw [sm_succ]
    unfold tk_in
    by_cases hpos : a k < 0
    · rw [if_pos hpos]
      have hp' : (a k).toInt < 0 := by
        have := i64_lt.mp hpos
        rw [Int64.toInt_zero] at this
        exact this
      by_cases e : q = p k
      · subst e
        rw [va_up_self, if_pos rfl, i64_add (by omega) (by omega), h1]
        unfold negI
        rw [if_pos hp']
        omega
      · rw [va_up_ne _ _ e, if_neg (fun z => e z.symm), h1]
        omega
    · rw [if_neg hpos, h1]
      have hp' : ¬ (a k).toInt < 0 := fun z => hpos (i64_lt.mpr (by rw [Int64.toInt_zero]; exact z))
      by_cases e : p k = q
      · rw [if_pos e]; unfold negI; rw [if_neg hp']; omega
      · rw [if_neg e]; omega
theorem bk_in_v {p : Nat → Nat} {a : Nat → Int64} {bl : Nat → Bool} {q : Nat} : ∀ k, (bk_in p a bl k q = true ↔ (bl q = true ∨ ∃ j, j < k ∧ p j = q ∧ (a j).toInt < 0)) := by
  intro k
  induction k with
  | zero => exact ⟨fun h => Or.inl h, fun h => h.elim id (fun ⟨j, hj, _⟩ => absurd hj (Nat.not_lt_zero j))⟩
  | succ k ih =>
    unfold bk_in
    by_cases hneg : a k < 0
    · have hp' : (a k).toInt < 0 := by
        have := i64_lt.mp hneg
        rw [Int64.toInt_zero] at this
        exact this
      rw [if_pos hneg]
      by_cases e : q = p k
      · subst e
        rw [va_up_self]
        exact ⟨fun _ => Or.inr ⟨k, Nat.lt_succ_self k, rfl, hp'⟩, fun _ => rfl⟩
      · rw [va_up_ne _ _ e, ih]
        constructor
        · intro h
          rcases h with h | ⟨j, hj, h⟩
          · exact Or.inl h
          · exact Or.inr ⟨j, by omega, h⟩
        · intro h
          rcases h with h | ⟨j, hj, h1, h2⟩
          · exact Or.inl h
          · by_cases ej : j = k
            · subst ej; exact absurd h1.symm e
            · exact Or.inr ⟨j, by omega, h1, h2⟩
    · rw [if_neg hneg, ih]
      have hp' : ¬ (a k).toInt < 0 := fun z => hneg (i64_lt.mpr (by rw [Int64.toInt_zero]; exact z))
      constructor
      · intro h
        rcases h with h | ⟨j, hj, h⟩
        · exact Or.inl h
        · exact Or.inr ⟨j, by omega, h⟩
      · intro h
        rcases h with h | ⟨j, hj, h1, h2⟩
        · exact Or.inl h
        · by_cases ej : j = k
          · subst ej; exact absurd h2 hp'
          · exact Or.inr ⟨j, by omega, h1, h2⟩
/-- the net of item j at q, as the slots say -/
def nvS (us : Nat → Nat) (ps : Nat → Nat → Nat) (am : Nat → Nat → Int64) (j q : Nat) : Int := sl_v (ps j) (am j) (us j) q
theorem gv_in_u {p : Nat → Nat} {a af : Nat → Int64} {u q : Nat} (h : sl_ok p a u) (haf : -5000000000000000000 ≤ (af q).toInt ∧ (af q).toInt ≤ 5000000000000000000) : (gv_in p a af u q).toInt = (af q).toInt + posI (sl_v p a u q) := by
  rw [gv_in_v h.1 (fun k hk => (h.2.2.2 k hk).2) haf u (Nat.le_refl u), sl_F posI (by decide) h.2.2.1]
  rfl
theorem tk_in_u {p : Nat → Nat} {a af : Nat → Int64} {u q : Nat} (h : sl_ok p a u) (haf : -5000000000000000000 ≤ (af q).toInt ∧ (af q).toInt ≤ 5000000000000000000) : (tk_in p a af u q).toInt = (af q).toInt + negI (sl_v p a u q) := by
  rw [tk_in_v h.1 (fun k hk => (h.2.2.2 k hk).2) haf u (Nat.le_refl u), sl_F negI (by decide) h.2.2.1]
  rfl
theorem bk_in_u {p : Nat → Nat} {a : Nat → Int64} {bl : Nat → Bool} {u q : Nat} (h : sl_ok p a u) : (bk_in p a bl u q = true ↔ (bl q = true ∨ sl_v p a u q < 0)) := by
  rw [bk_in_v u]
  constructor
  · intro z
    rcases z with z | ⟨j, hj, h1, h2⟩
    · exact Or.inl z
    · rw [← h1, sl_at h.2.2.1 hj]; exact Or.inr h2
  · intro z
    rcases z with z | z
    · exact Or.inl z
    · obtain ⟨k, hk, e⟩ := sl_hit (ps := p) (am := a) (u := u) (p := q) (by omega)
      rw [← e, sl_at h.2.2.1 hk] at z
      exact Or.inr ⟨k, hk, e, z⟩
theorem ct_u {p : Nat → Nat} {a fl af : Nat → Int64} {bl : Nat → Bool} {u : Nat} (h : sl_ok p a u) (haf : ∀ q, q < 300 → -5000000000000000000 ≤ (af q).toInt ∧ (af q).toInt ≤ 5000000000000000000) : ct p a u fl af bl = true ↔ ∀ q, q < 300 → sl_v p a u q < 0 → bl q = false ∧ (fl q).toInt ≤ (af q).toInt + sl_v p a u q := by
  unfold ct
  rw [decide_eq_true_iff]
  constructor
  · intro hc q hq hneg
    obtain ⟨k, hk, e⟩ := sl_hit (ps := p) (am := a) (u := u) (p := q) (by omega)
    subst e
    rw [sl_at h.2.2.1 hk] at hneg ⊢
    have h1 := hc k hk
    have hb := (h.2.2.2 k hk).2
    have hf := haf (p k) hq
    unfold ct_at at h1
    rw [decide_eq_true (i64_lt.mpr (by rw [Int64.toInt_zero]; exact hneg)), Bool.true_and, Bool.or_eq_false_iff] at h1
    refine ⟨h1.1, ?_⟩
    have h2 := of_decide_eq_false h1.2
    rw [i64_lt, i64_add (by omega) (by omega)] at h2
    omega
  · intro hc k hk
    have hb := (h.2.2.2 k hk).2
    have hf := haf (p k) (h.2.1 k hk)
    unfold ct_at
    by_cases hneg : a k < 0
    · have hp' : (a k).toInt < 0 := by
        have := i64_lt.mp hneg
        rw [Int64.toInt_zero] at this
        exact this
      have h1 := hc (p k) (h.2.1 k hk) (by rw [sl_at h.2.2.1 hk]; exact hp')
      rw [sl_at h.2.2.1 hk] at h1
      rw [h1.1, Bool.false_or, decide_eq_false (p := af (p k) + a k < fl (p k)) (by rw [i64_lt, i64_add (by omega) (by omega)]; have := h1.2; omega), Bool.and_false]
    · rw [decide_eq_false hneg, Bool.false_and]
section SWEEP
variable {us : Nat → Nat} {ps : Nat → Nat → Nat} {am : Nat → Nat → Int64} {T : Nat → Bool} {va fl : Nat → Int64} {n : Nat}
abbrev iV (f : Nat → Int64) : Nat → Int := fun q => (f q).toInt
/-- items' slots are as the document says, values and floors too -/
def cl_ok (us : Nat → Nat) (ps : Nat → Nat → Nat) (am : Nat → Nat → Int64) (va fl : Nat → Int64) (n : Nat) : Prop := n ≤ 200 ∧ (∀ i, i < n → sl_ok (ps i) (am i) (us i)) ∧ ∀ q, q < 300 → -1000000000000000000 ≤ (fl q).toInt ∧ (fl q).toInt ≤ (va q).toInt ∧ (va q).toInt ≤ 1000000000000000000
theorem nv_b (h : cl_ok us ps am va fl n) {i : Nat} (hi : i < n) (q : Nat) : -1000000000000000 ≤ nvS us ps am i q ∧ nvS us ps am i q ≤ 1000000000000000 := sl_bound (h.2.1 i hi)
theorem gG_b (h : cl_ok us ps am va fl n) (S : Nat → Bool) (q : Nat) {i : Nat} (hi : i ≤ n) : -200000000000000000 ≤ sm (gd_G (nvS us ps am) S q) i ∧ sm (gd_G (nvS us ps am) S q) i ≤ 200000000000000000 := by
  have hn := h.1
  have := sm_bound (f := gd_G (nvS us ps am) S q) (n := i) (fun k hk => by
    have := nv_b h (i := k) (by omega) q
    unfold gd_G
    split
    · exact this
    · omega)
  omega
theorem gK_b (h : cl_ok us ps am va fl n) (S : Nat → Bool) (q : Nat) {i : Nat} (hi : i ≤ n) : -200000000000000000 ≤ sm (gd_K (nvS us ps am) S q) i ∧ sm (gd_K (nvS us ps am) S q) i ≤ 200000000000000000 := by
  have hn := h.1
  have := sm_bound (f := gd_K (nvS us ps am) S q) (n := i) (fun k hk => by
    have := nv_b h (i := k) (by omega) q
    unfold gd_K
    split
    · exact this
    · omega)
  omega
theorem gT_b (h : cl_ok us ps am va fl n) (S : Nat → Bool) (q : Nat) {i : Nat} (hi : i ≤ n) : -200000000000000000 ≤ sm (gd_T (nvS us ps am) S q) i ∧ sm (gd_T (nvS us ps am) S q) i ≤ 200000000000000000 := by
  have hn := h.1
  have := sm_bound (f := gd_T (nvS us ps am) S q) (n := i) (fun k hk => by
    have := nv_b h (i := k) (by omega) q
    unfold gd_T
    split
    · exact this
    · omega)
  omega
theorem gv_out_v (h : cl_ok us ps am va fl n) {S : Nat → Bool} {af : Nat → Int64} {q : Nat} (haf : -1000000000000000000 ≤ (af q).toInt ∧ (af q).toInt ≤ 1000000000000000000) : ∀ i, i ≤ n → (gv_out us ps am S af i q).toInt = (af q).toInt + sm (gd_G (nvS us ps am) S q) i := by
  intro i
  induction i with
  | zero =>
    intro _
    show (af q).toInt = (af q).toInt + 0
    omega
  | succ i ih =>
    intro hi
    have h1 := ih (by omega)
    have hb := gG_b h S q (i := i) (by omega)
    rw [sm_succ]
    unfold gv_out
    by_cases hs : S i = true
    · rw [if_pos hs, gv_in_u (h.2.1 i (by omega)) (by omega), h1]
      unfold gd_G posI nvS
      by_cases hp : 0 < sl_v (ps i) (am i) (us i) q
      · rw [if_pos hp, if_pos ⟨hs, hp⟩]; omega
      · rw [if_neg hp, if_neg (fun z => hp z.2)]; omega
    · rw [if_neg hs, h1]
      unfold gd_G
      rw [if_neg (fun z => hs z.1)]
      omega
/-- what holds at item i of a sweep that began with the set C, n items -/
def sw_inv (us : Nat → Nat) (ps : Nat → Nat → Nat) (am : Nat → Nat → Int64) (T : Nat → Bool) (va fl : Nat → Int64) (n : Nat) (C : Nat → Bool) (i : Nat) (σ : DS) : Prop :=
  (∀ k, k < n → σ.1 k = true → C k = true) ∧ gd_sub n T (nvS us ps am) (iV va) (iV fl) σ.1 ∧
  (∀ q, q < 300 → (σ.2.1 q).toInt = (va q).toInt + sm (gd_G (nvS us ps am) C q) n + sm (gd_K (nvS us ps am) σ.1 q) i) ∧
  (∀ q, q < 300 → (σ.2.2.1 q = true ↔ ∃ j, j < i ∧ T j = true ∧ σ.1 j = false ∧ nvS us ps am j q < 0)) ∧
  σ.2.2.2 = cn σ.1 n ∧
  (σ.2.2.2 < cn C n ∨ ((∀ k, k < n → σ.1 k = C k) ∧ ∀ j, j < i → C j = true → gd_can T (nvS us ps am) (iV fl) C (fun q => (va q).toInt + sm (gd_G (nvS us ps am) C q) n + sm (gd_K (nvS us ps am) C q) j) j))
theorem gK_off {nv : Nat → Nat → Int} {S : Nat → Bool} {q i : Nat} {b : Bool} : sm (gd_K nv (va_up S i b) q) i = sm (gd_K nv S q) i := sm_congr (fun k hk => by unfold gd_K; rw [va_up_ne S b (Nat.ne_of_lt hk)])
theorem sw_step (h : cl_ok us ps am va fl n) {C : Nat → Bool} (hCT : ∀ k, k < n → C k = true → T k = true) {i : Nat} (hi : i < n) {σ : DS} (I : sw_inv us ps am T va fl n C i σ) : sw_inv us ps am T va fl n C (i + 1) (dh_step us ps am T fl i σ) := by
  obtain ⟨h1, h2, h3, h4, h5, h6⟩ := I
  have hok := h.2.1 i hi
  have hvb : ∀ q, q < 300 → -5000000000000000000 ≤ (σ.2.1 q).toInt ∧ (σ.2.1 q).toInt ≤ 5000000000000000000 := by
    intro q hq
    have a1 := gG_b h C q (Nat.le_refl n)
    have a2 := gK_b h σ.1 q (i := i) (Nat.le_of_lt hi)
    have a3 := h.2.2 q hq
    have a4 := h3 q hq
    omega
  have hST : ∀ k, k < n → σ.1 k = true → T k = true := fun k hk hs => hCT k hk (h1 k hk hs)
  unfold dh_step
  by_cases hT : T i = true
  · rw [if_pos hT]
    by_cases hc : σ.1 i = true ∧ ct (ps i) (am i) (us i) fl σ.2.1 σ.2.2.1 = true
    · rw [if_pos hc]
      refine ⟨h1, h2, fun q hq => ?_, fun q hq => ?_, h5, ?_⟩
      · show (tk_in (ps i) (am i) σ.2.1 (us i) q).toInt = (va q).toInt + sm (gd_G (nvS us ps am) C q) n + sm (gd_K (nvS us ps am) σ.1 q) (i + 1)
        rw [tk_in_u hok (hvb q hq), h3 q hq, sm_succ]
        have e : gd_K (nvS us ps am) σ.1 q i = negI (sl_v (ps i) (am i) (us i) q) := by
          unfold gd_K negI nvS
          by_cases hn : sl_v (ps i) (am i) (us i) q < 0
          · rw [if_pos hn, if_pos ⟨hc.1, hn⟩]
          · rw [if_neg hn, if_neg (fun z => hn z.2)]
        rw [e]
        omega
      · show σ.2.2.1 q = true ↔ _
        rw [h4 q hq]
        constructor
        · intro ⟨j, hj, z⟩
          exact ⟨j, by omega, z⟩
        · intro ⟨j, hj, z1, z2, z3⟩
          by_cases e : j = i
          · subst e; rw [hc.1] at z2; cases z2
          · exact ⟨j, by omega, z1, z2, z3⟩
      · show σ.2.2.2 < cn C n ∨ _
        rcases h6 with h6 | ⟨h6, h7⟩
        · exact Or.inl h6
        · refine Or.inr ⟨h6, fun j hj hCj => ?_⟩
          by_cases e : j = i
          · subst e
            intro q hq hneg
            have hct := (ct_u hok hvb).mp hc.2 q hq hneg
            refine ⟨fun k hk hTk hCk hkn => ?_, ?_⟩
            · have : σ.2.2.1 q = true := (h4 q hq).mpr ⟨k, hk, hTk, by rw [h6 k (by omega)]; exact hCk, hkn⟩
              rw [hct.1] at this
              cases this
            · have e3 := h3 q hq
              have e4 : sm (gd_K (nvS us ps am) σ.1 q) j = sm (gd_K (nvS us ps am) C q) j := sm_congr (fun k hk => by unfold gd_K; rw [h6 k (by omega)])
              rw [e4] at e3
              have e5 := hct.2
              show (fl q).toInt ≤ (va q).toInt + sm (gd_G (nvS us ps am) C q) n + sm (gd_K (nvS us ps am) C q) j + nvS us ps am j q
              rw [← e3]
              exact e5
          · exact h7 j (by omega) hCj
    · rw [if_neg hc]
      have hsub : gd_sub n T (nvS us ps am) (iV va) (iV fl) (va_up σ.1 i false) := by
        by_cases hs : σ.1 i = true
        · refine gd_drop (C := C) (af := fun q => (σ.2.1 q).toInt) hST h1 h2 hi h3 (fun hcan => hc ⟨hs, (ct_u hok hvb).mpr (fun q hq hneg => ?_)⟩)
          obtain ⟨c1, c2⟩ := hcan q hq hneg
          refine ⟨?_, c2⟩
          cases hb : σ.2.2.1 q with
          | false => rfl
          | true =>
            obtain ⟨j, hj, z1, z2, z3⟩ := (h4 q hq).mp hb
            exact (c1 j hj z1 z2 z3).elim
        · have e : va_up σ.1 i false = σ.1 := by
            have e0 : σ.1 i = false := by
              cases hz : σ.1 i with
              | false => rfl
              | true => exact absurd hz hs
            rw [← e0]
            exact up_same σ.1 i
          rw [e]
          exact h2
      refine ⟨fun k hk hs => ?_, hsub, fun q hq => ?_, fun q hq => ?_, ?_, ?_⟩
      · by_cases e : k = i
        · subst e
          have hs : va_up σ.1 k false k = true := hs
          rw [va_up_self] at hs
          cases hs
        · have hs : va_up σ.1 i false k = true := hs
          rw [va_up_ne _ _ e] at hs
          exact h1 k hk hs
      · show (σ.2.1 q).toInt = _ + sm (gd_K (nvS us ps am) (va_up σ.1 i false) q) (i + 1)
        rw [sm_succ, gK_off]
        have e : gd_K (nvS us ps am) (va_up σ.1 i false) q i = 0 := by
          unfold gd_K
          rw [va_up_self]
          exact if_neg (fun z => by cases z.1)
        rw [e, h3 q hq]
        omega
      · show bk_in (ps i) (am i) σ.2.2.1 (us i) q = true ↔ ∃ j, j < i + 1 ∧ T j = true ∧ va_up σ.1 i false j = false ∧ nvS us ps am j q < 0
        rw [bk_in_u hok, h4 q hq]
        constructor
        · intro z
          rcases z with ⟨j, hj, z1, z2, z3⟩ | z
          · exact ⟨j, by omega, z1, by rw [va_up_ne _ _ (by omega)]; exact z2, z3⟩
          · exact ⟨i, by omega, hT, va_up_self _ _ _, z⟩
        · intro ⟨j, hj, z1, z2, z3⟩
          by_cases e : j = i
          · subst e; exact Or.inr z3
          · rw [va_up_ne _ _ e] at z2
            exact Or.inl ⟨j, by omega, z1, z2, z3⟩
      · show (if σ.1 i = true then σ.2.2.2 - 1 else σ.2.2.2) = cn (va_up σ.1 i false) n
        by_cases hs : σ.1 i = true
        · rw [if_pos hs]
          have := cn_off n hi hs
          omega
        · rw [if_neg hs, h5]
          exact cn_congr (fun k hk => by
            by_cases e : k = i
            · subst e
              rw [va_up_self]
              cases hz : σ.1 k with
              | false => rfl
              | true => exact absurd hz hs
            · rw [va_up_ne _ _ e])
      · show (if σ.1 i = true then σ.2.2.2 - 1 else σ.2.2.2) < cn C n ∨ _
        by_cases hs : σ.1 i = true
        · rw [if_pos hs]
          have hpos := cn_pos (n := n) hi hs
          rcases h6 with h6 | ⟨h6, h7⟩
          · exact Or.inl (by omega)
          · have := cn_congr h6
            exact Or.inl (by omega)
        · rw [if_neg hs]
          rcases h6 with h6 | ⟨h6, h7⟩
          · exact Or.inl h6
          · refine Or.inr ⟨fun k hk => ?_, fun j hj hCj => ?_⟩
            · show va_up σ.1 i false k = C k
              by_cases e : k = i
              · subst e
                rw [va_up_self, ← h6 k hk]
                cases hz : σ.1 k with
                | false => rfl
                | true => exact absurd hz hs
              · rw [va_up_ne _ _ e]; exact h6 k hk
            · by_cases e : j = i
              · subst e
                rw [← h6 j hi] at hCj
                exact absurd hCj hs
              · exact h7 j (by omega) hCj
  · rw [if_neg hT]
    have hsF : σ.1 i = false := by
      cases hz : σ.1 i with
      | false => rfl
      | true => exact absurd (hST i hi hz) hT
    refine ⟨h1, h2, fun q hq => ?_, fun q hq => ?_, h5, ?_⟩
    · have e : gd_K (nvS us ps am) σ.1 q i = 0 := if_neg (fun z => by rw [hsF] at z; cases z.1)
      rw [sm_succ, e, h3 q hq]
      omega
    · rw [h4 q hq]
      constructor
      · intro ⟨j, hj, z⟩
        exact ⟨j, by omega, z⟩
      · intro ⟨j, hj, z1, z⟩
        by_cases e : j = i
        · subst e; exact absurd z1 hT
        · exact ⟨j, by omega, z1, z⟩
    · rcases h6 with h6 | ⟨h6, h7⟩
      · exact Or.inl h6
      · refine Or.inr ⟨h6, fun j hj hCj => ?_⟩
        by_cases e : j = i
        · subst e; exact absurd (hCT j hi hCj) hT
        · exact h7 j (by omega) hCj
/-- what holds of a state between sweeps -/
def fg_inv (us : Nat → Nat) (ps : Nat → Nat → Nat) (am : Nat → Nat → Int64) (T : Nat → Bool) (va fl : Nat → Int64) (n : Nat) (σ : DS) : Prop := (∀ k, k < n → σ.1 k = true → T k = true) ∧ gd_sub n T (nvS us ps am) (iV va) (iV fl) σ.1 ∧ σ.2.2.2 = cn σ.1 n
theorem sw_start (h : cl_ok us ps am va fl n) {σ : DS} (I : fg_inv us ps am T va fl n σ) : sw_inv us ps am T va fl n σ.1 0 (σ.1, gv_out us ps am σ.1 (sr_a va σ.2.1 300) n, sr_b σ.2.2.1 300, σ.2.2.2) := by
  obtain ⟨h1, h2, h3⟩ := I
  refine ⟨fun k hk hs => hs, h2, fun q hq => ?_, fun q hq => ?_, h3, Or.inr ⟨fun k hk => rfl, fun j hj => absurd hj (Nat.not_lt_zero j)⟩⟩
  · show (gv_out us ps am σ.1 (sr_a va σ.2.1 300) n q).toInt = (va q).toInt + sm (gd_G (nvS us ps am) σ.1 q) n + 0
    have e := sr_a_at va σ.2.1 300 q hq
    have hb := h.2.2 q hq
    rw [gv_out_v h (by rw [e]; omega) n (Nat.le_refl n), e]
    omega
  · show sr_b σ.2.2.1 300 q = true ↔ _
    rw [sr_b_at σ.2.2.1 300 q hq]
    exact ⟨fun z => (by cases z), fun ⟨j, hj, _⟩ => absurd hj (Nat.not_lt_zero j)⟩
theorem sw_all (h : cl_ok us ps am va fl n) {σ : DS} (I : fg_inv us ps am T va fl n σ) : ∀ i, i ≤ n → sw_inv us ps am T va fl n σ.1 i (dh us ps am T fl (σ.1, gv_out us ps am σ.1 (sr_a va σ.2.1 300) n, sr_b σ.2.2.1 300, σ.2.2.2) i) := by
  intro i
  induction i with
  | zero => intro _; exact sw_start h I
  | succ i ih => intro hi; exact sw_step h I.1 (by omega) (ih (by omega))
/-- what the search leaves -/
def fg_end (us : Nat → Nat) (ps : Nat → Nat → Nat) (am : Nat → Nat → Int64) (T : Nat → Bool) (va fl : Nat → Int64) (n : Nat) (σ : DS) : Prop := gd_good n T (nvS us ps am) (iV va) (iV fl) σ.1 ∧ gd_sub n T (nvS us ps am) (iV va) (iV fl) σ.1 ∧ σ.2.2.2 = cn σ.1 n ∧ ∀ q, q < 300 → (σ.2.1 q).toInt = (va q).toInt + sm (gd_T (nvS us ps am) σ.1 q) n
theorem sw_next (h : cl_ok us ps am va fl n) {σ : DS} (I : fg_inv us ps am T va fl n σ) : fg_inv us ps am T va fl n (swp us ps am T va fl n σ) ∧ (¬ (swp us ps am T va fl n σ).2.2.2 < σ.2.2.2 → fg_end us ps am T va fl n (swp us ps am T va fl n σ)) := by
  have h0 := sw_all h I n (Nat.le_refl n)
  generalize hσ : swp us ps am T va fl n σ = τ
  have h0 : sw_inv us ps am T va fl n σ.1 n τ := by rw [← hσ]; exact h0
  obtain ⟨h1, h2, h3, h4, h5, h6⟩ := h0
  have hT : ∀ k, k < n → τ.1 k = true → T k = true := fun k hk hs => I.1 k hk (h1 k hk hs)
  refine ⟨⟨hT, h2, h5⟩, fun hno => ?_⟩
  rcases h6 with h6 | ⟨h6, h7⟩
  · rw [← I.2.2] at h6; exact absurd h6 hno
  · have hg : gd_good n T (nvS us ps am) (iV va) (iV fl) σ.1 := gd_sweep I.1 (fun p hp => (h.2.2 p hp).2.1) h7
    refine ⟨gd_good_congr (fun _ _ => rfl) (fun _ _ _ _ => rfl) (fun _ _ => rfl) (fun _ _ => rfl) (fun k hk => (h6 k hk).symm) hg, h2, h5, fun q hq => ?_⟩
    rw [h3 q hq, gd_split, sm_congr (f := gd_G (nvS us ps am) σ.1 q) (g := gd_G (nvS us ps am) τ.1 q) (fun k hk => by unfold gd_G; rw [h6 k hk])]
    omega
theorem fg_all (h : cl_ok us ps am va fl n) : ∀ (f : Nat) (σ : DS), fg_inv us ps am T va fl n σ → σ.2.2.2 < f → fg_end us ps am T va fl n (fg us ps am T va fl n f σ) := by
  intro f
  induction f with
  | zero => intro σ _ hf; exact absurd hf (Nat.not_lt_zero _)
  | succ f ih =>
    intro σ I hf
    obtain ⟨h1, h2⟩ := sw_next h I
    unfold fg
    by_cases hlt : (swp us ps am T va fl n σ).2.2.2 < σ.2.2.2
    · rw [if_pos hlt]
      exact ih _ h1 (by omega)
    · rw [if_neg hlt]
      exact h2 hlt
/-- the search from its start -/
theorem fg_start (S af bl) {tc : Nat} (htc : tc = cn T n) : fg_inv us ps am T va fl n (st_s T S n, af, bl, tc) := by
  have e : ∀ k, k < n → st_s T S n k = T k := fun k hk => st_s_at T S n k hk
  refine ⟨fun k hk hs => ?_, fun G hG i hi hg => ?_, ?_⟩
  · rw [← e k hk]; exact hs
  · show st_s T S n i = true
    rw [e i hi]
    exact hG.1 i hi hg
  · show tc = cn (st_s T S n) n
    rw [htc]
    exact (cn_congr e).symm
end SWEEP
