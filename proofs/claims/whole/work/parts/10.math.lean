/-! THE MATHEMATICS: sums over items, good sets, and what both searches keep. No machine here. -/
def sm (f : Nat → Int) : Nat → Int
  | 0 => 0
  | k + 1 => sm f k + f k
theorem sm_succ (f : Nat → Int) (k : Nat) : sm f (k + 1) = sm f k + f k := rfl
theorem sm_le {f g : Nat → Int} {n : Nat} (h : ∀ k, k < n → f k ≤ g k) : sm f n ≤ sm g n := by
  induction n with
  | zero => exact Int.le_refl _
  | succ n ih =>
    have h1 := ih (fun k hk => h k (Nat.lt_succ_of_lt hk))
    have h2 := h n (Nat.lt_succ_self n)
    rw [sm_succ, sm_succ]
    omega
theorem sm_congr {f g : Nat → Int} {n : Nat} (h : ∀ k, k < n → f k = g k) : sm f n = sm g n := by
  induction n with
  | zero => rfl
  | succ n ih =>
    have h1 := ih (fun k hk => h k (Nat.lt_succ_of_lt hk))
    have h2 := h n (Nat.lt_succ_self n)
    rw [sm_succ, sm_succ, h1, h2]
theorem sm_add (f g : Nat → Int) (n : Nat) : sm (fun k => f k + g k) n = sm f n + sm g n := by
  induction n with
  | zero => rfl
  | succ n ih =>
    rw [sm_succ, sm_succ, sm_succ, ih]
    omega
theorem sm_zero {f : Nat → Int} {n : Nat} (h : ∀ k, k < n → f k = 0) : sm f n = 0 := by
  induction n with
  | zero => rfl
  | succ n ih =>
    have h1 := ih (fun k hk => h k (Nat.lt_succ_of_lt hk))
    have h2 := h n (Nat.lt_succ_self n)
    rw [sm_succ, h1, h2]
    rfl
theorem sm_nonneg {f : Nat → Int} {n : Nat} (h : ∀ k, k < n → 0 ≤ f k) : 0 ≤ sm f n := by
  induction n with
  | zero => exact Int.le_refl _
  | succ n ih =>
    have h1 := ih (fun k hk => h k (Nat.lt_succ_of_lt hk))
    have h2 := h n (Nat.lt_succ_self n)
    rw [sm_succ]
    omega
theorem sm_single {f : Nat → Int} {i : Nat} : ∀ n : Nat, i < n → sm (fun k => if k = i then f k else 0) n = f i := by
  intro n
  induction n with
  | zero => intro h; exact absurd h (Nat.not_lt_zero i)
  | succ n ih =>
    intro h
    rw [sm_succ]
    by_cases e : n = i
    · subst e
      rw [if_pos rfl, sm_zero (fun k hk => if_neg (Nat.ne_of_lt hk))]
      omega
    · rw [if_neg e, ih (by omega)]
      omega
theorem sm_upto {f : Nat → Int} {i : Nat} : ∀ n : Nat, i ≤ n → sm (fun k => if k < i then f k else 0) n = sm f i := by
  intro n
  induction n with
  | zero =>
    intro h
    have e : i = 0 := by omega
    subst e
    rfl
  | succ n ih =>
    intro h
    by_cases e : i = n + 1
    · subst e
      exact sm_congr (fun k hk => if_pos hk)
    · rw [sm_succ, if_neg (by omega), ih (by omega)]
      omega
/-- how many of the first k are in a set -/
def cn (S : Nat → Bool) : Nat → Nat
  | 0 => 0
  | k + 1 => cn S k + (if S k = true then 1 else 0)
theorem cn_succ (S : Nat → Bool) (k : Nat) : cn S (k + 1) = cn S k + (if S k = true then 1 else 0) := rfl
theorem cn_le (S : Nat → Bool) (n : Nat) : cn S n ≤ n := by
  induction n with
  | zero => exact Nat.le_refl _
  | succ n ih =>
    rw [cn_succ]
    split <;> omega
theorem cn_congr {S T : Nat → Bool} {n : Nat} (h : ∀ k, k < n → S k = T k) : cn S n = cn T n := by
  induction n with
  | zero => rfl
  | succ n ih =>
    rw [cn_succ, cn_succ, ih (fun k hk => h k (Nat.lt_succ_of_lt hk)), h n (Nat.lt_succ_self n)]
theorem cn_off {S : Nat → Bool} {t : Nat} : ∀ n : Nat, t < n → S t = true → cn (va_up S t false) n + 1 = cn S n := by
  intro n
  induction n with
  | zero => intro h; exact absurd h (Nat.not_lt_zero t)
  | succ n ih =>
    intro h hS
    rw [cn_succ, cn_succ]
    by_cases e : n = t
    · subst e
      rw [va_up_self, hS, if_pos rfl, if_neg (by decide), cn_congr (fun k hk => va_up_ne S false (Nat.ne_of_lt hk))]
    · have := ih (by omega) hS
      rw [va_up_ne S false e]
      omega
theorem cn_tail {S : Nat → Bool} {n : Nat} : ∀ m : Nat, n ≤ m → (∀ k, n ≤ k → k < m → S k = false) → cn S m = cn S n := by
  intro m
  induction m with
  | zero =>
    intro h _
    have e : n = 0 := by omega
    subst e
    rfl
  | succ m ih =>
    intro h hf
    by_cases e : n = m + 1
    · subst e; rfl
    · rw [cn_succ, hf m (by omega) (Nat.lt_succ_self m), if_neg (by decide), ih (by omega) (fun k h1 h2 => hf k h1 (by omega))]
      rfl
theorem cn_mono {S T : Nat → Bool} {n : Nat} (h : ∀ k, k < n → S k = true → T k = true) : cn S n ≤ cn T n := by
  induction n with
  | zero => exact Nat.le_refl _
  | succ n ih =>
    have h1 := ih (fun k hk => h k (Nat.lt_succ_of_lt hk))
    have h2 := h n (Nat.lt_succ_self n)
    rw [cn_succ, cn_succ]
    by_cases e : S n = true
    · rw [if_pos e, if_pos (h2 e)]; omega
    · rw [if_neg e]; omega
theorem cn_sub {S T : Nat → Bool} {n : Nat} (h : ∀ k, k < n → S k = true → T k = true) : cn (fun k => T k && !S k) n + cn S n = cn T n := by
  induction n with
  | zero => rfl
  | succ n ih =>
    have h1 := ih (fun k hk => h k (Nat.lt_succ_of_lt hk))
    have h2 := h n (Nat.lt_succ_self n)
    rw [cn_succ, cn_succ, cn_succ]
    cases hs : S n with
    | false =>
      cases ht : T n with
      | false => simp; omega
      | true => simp; omega
    | true =>
      rw [h2 hs]
      simp
      omega
theorem cn_pos {S : Nat → Bool} {t n : Nat} (ht : t < n) (h : S t = true) : 0 < cn S n := by
  have := cn_off n ht h
  omega
/-- an item's part at a position: all of it, what it gives, what it takes -/
def gd_T (nv : Nat → Nat → Int) (S : Nat → Bool) (p k : Nat) : Int := if S k = true then nv k p else 0
def gd_G (nv : Nat → Nat → Int) (S : Nat → Bool) (p k : Nat) : Int := if S k = true ∧ 0 < nv k p then nv k p else 0
def gd_K (nv : Nat → Nat → Int) (S : Nat → Bool) (p k : Nat) : Int := if S k = true ∧ nv k p < 0 then nv k p else 0
theorem gd_split (nv : Nat → Nat → Int) (S : Nat → Bool) (p n : Nat) : sm (gd_T nv S p) n = sm (gd_G nv S p) n + sm (gd_K nv S p) n := by
  rw [← sm_add]
  refine sm_congr (fun k _ => ?_)
  unfold gd_T gd_G gd_K
  by_cases hs : S k = true
  · rw [if_pos hs]
    by_cases h1 : 0 < nv k p
    · rw [if_pos ⟨hs, h1⟩, if_neg (fun q => by have := q.2; omega)]; omega
    · rw [if_neg (fun q => h1 q.2)]
      by_cases h2 : nv k p < 0
      · rw [if_pos ⟨hs, h2⟩]; omega
      · rw [if_neg (fun q => h2 q.2)]; omega
  · rw [if_neg hs, if_neg (fun q => hs q.1), if_neg (fun q => hs q.1)]; rfl
def gd_closed (n : Nat) (th : Nat → Bool) (nv : Nat → Nat → Int) (S : Nat → Bool) : Prop := ∀ i j p : Nat, i < n → j < i → p < 300 → S i = true → th j = true → nv i p < 0 → nv j p < 0 → S j = true
def gd_good (n : Nat) (th : Nat → Bool) (nv : Nat → Nat → Int) (va fl : Nat → Int) (S : Nat → Bool) : Prop := (∀ i, i < n → S i = true → th i = true) ∧ gd_closed n th nv S ∧ ∀ p, p < 300 → fl p ≤ va p + sm (gd_T nv S p) n
/-- every good set lies in S -/
def gd_sub (n : Nat) (th : Nat → Bool) (nv : Nat → Nat → Int) (va fl : Nat → Int) (S : Nat → Bool) : Prop := ∀ G, gd_good n th nv va fl G → ∀ i, i < n → G i = true → S i = true
theorem gd_unique {n : Nat} {th : Nat → Bool} {nv : Nat → Nat → Int} {va fl : Nat → Int} {S T : Nat → Bool} (h1 : gd_good n th nv va fl S) (h2 : gd_sub n th nv va fl S) (h3 : gd_good n th nv va fl T) (h4 : gd_sub n th nv va fl T) : ∀ i, i < n → S i = T i := by
  intro i hi
  have a := h2 T h3 i hi
  have b := h4 S h1 i hi
  cases hs : S i with
  | true => exact (b hs).symm
  | false =>
    cases ht : T i with
    | false => rfl
    | true => rw [a ht] at hs; cases hs
/-- the good sets and what is asked of them don't depend on what lies beyond n and 300 -/
theorem gd_good_congr {n : Nat} {th th' : Nat → Bool} {nv nv' : Nat → Nat → Int} {va va' fl fl' : Nat → Int} {S S' : Nat → Bool} (ht : ∀ i, i < n → th i = th' i) (hn : ∀ i p, i < n → p < 300 → nv i p = nv' i p) (hv : ∀ p, p < 300 → va p = va' p) (hf : ∀ p, p < 300 → fl p = fl' p) (hS : ∀ i, i < n → S i = S' i) (h : gd_good n th nv va fl S) : gd_good n th' nv' va' fl' S' := by
  obtain ⟨h1, h2, h3⟩ := h
  refine ⟨fun i hi hs => ?_, fun i j p hi hj hp hs hth h4 h5 => ?_, fun p hp => ?_⟩
  · rw [← ht i hi]
    exact h1 i hi (by rw [hS i hi]; exact hs)
  · rw [← hS j (by omega)]
    exact h2 i j p hi hj hp (by rw [hS i hi]; exact hs) (by rw [ht j (by omega)]; exact hth) (by rw [hn i p hi hp]; exact h4) (by rw [hn j p (by omega) hp]; exact h5)
  · rw [← hv p hp, ← hf p hp, ← sm_congr (f := gd_T nv S p) (g := gd_T nv' S' p) (fun k hk => by unfold gd_T; rw [hS k hk, hn k p hk hp])]
    exact h3 p hp
theorem gd_sub_congr {n : Nat} {th th' : Nat → Bool} {nv nv' : Nat → Nat → Int} {va va' fl fl' : Nat → Int} {S S' : Nat → Bool} (ht : ∀ i, i < n → th i = th' i) (hn : ∀ i p, i < n → p < 300 → nv i p = nv' i p) (hv : ∀ p, p < 300 → va p = va' p) (hf : ∀ p, p < 300 → fl p = fl' p) (hS : ∀ i, i < n → S i = S' i) (h : gd_sub n th nv va fl S) : gd_sub n th' nv' va' fl' S' := by
  intro G hG i hi hg
  rw [← hS i hi]
  exact h G (gd_good_congr (fun i hi => (ht i hi).symm) (fun i p hi hp => (hn i p hi hp).symm) (fun p hp => (hv p hp).symm) (fun p hp => (hf p hp).symm) (fun i hi => rfl) hG) i hi hg
theorem gd_sub_off {n : Nat} {th : Nat → Bool} {nv : Nat → Nat → Int} {va fl : Nat → Int} {S : Nat → Bool} {t : Nat} (h : gd_sub n th nv va fl S) (hx : ∀ G, gd_good n th nv va fl G → G t = true → False) : gd_sub n th nv va fl (va_up S t false) := by
  intro G hG i hi hg
  by_cases e : i = t
  · subst e
    exact (hx G hG hg).elim
  · rw [va_up_ne S false e]
    exact h G hG i hi hg
/-- the reference's first step: the last taker of a position that comes below its floor -/
theorem gd_last {n : Nat} {th : Nat → Bool} {nv : Nat → Nat → Int} {va fl : Nat → Int} {S : Nat → Bool} {t p : Nat} (hS : ∀ i, i < n → S i = true → th i = true) (h : gd_sub n th nv va fl S) (hp : p < 300) (hlow : va p + sm (gd_T nv S p) n < fl p) (ht : t < n) (htk : nv t p < 0) (hlast : ∀ j, t < j → j < n → S j = true → nv j p < 0 → False) : gd_sub n th nv va fl (va_up S t false) := by
  refine gd_sub_off h (fun G hG hGt => ?_)
  have h1 : sm (gd_T nv G p) n ≤ sm (gd_T nv S p) n := by
    refine sm_le (fun k hk => ?_)
    unfold gd_T
    by_cases hg : G k = true
    · rw [if_pos hg, if_pos (h G hG k hk hg)]
      exact Int.le_refl _
    · rw [if_neg hg]
      by_cases hs : S k = true
      · rw [if_pos hs]
        by_cases hneg : nv k p < 0
        · rcases Nat.lt_trichotomy k t with q | q | q
          · exact absurd (hG.2.1 t k p ht q hp hGt (hS k hk hs) htk hneg) hg
          · subst q; exact absurd hGt hg
          · exact (hlast k q hk hs hneg).elim
        · omega
      · rw [if_neg hs]
        exact Int.le_refl _
  have h2 := hG.2.2 p hp
  omega
/-- the reference's second step: an item that lacks one before it -/
theorem gd_lack {n : Nat} {th : Nat → Bool} {nv : Nat → Nat → Int} {va fl : Nat → Int} {S : Nat → Bool} {i j p : Nat} (h : gd_sub n th nv va fl S) (hp : p < 300) (hi : i < n) (hj : j < i) (hth : th j = true) (hns : ¬ S j = true) (h1 : nv i p < 0) (h2 : nv j p < 0) : gd_sub n th nv va fl (va_up S i false) :=
  gd_sub_off h (fun G hG hg => hns (h G hG j (by omega) (hG.2.1 i j p hi hj hp hg hth h1 h2)))
/-- a position below its floor has a taker in the set -/
theorem gd_taker {n : Nat} {nv : Nat → Nat → Int} {va fl : Nat → Int} {S : Nat → Bool} {p : Nat} (hvf : fl p ≤ va p) (hlow : va p + sm (gd_T nv S p) n < fl p) (hno : ∀ t, t < n → S t = true → nv t p < 0 → False) : False := by
  have : 0 ≤ sm (gd_T nv S p) n := by
    refine sm_nonneg (fun k hk => ?_)
    unfold gd_T
    by_cases hs : S k = true
    · rw [if_pos hs]
      by_cases hneg : nv k p < 0
      · exact (hno k hk hs hneg).elim
      · omega
    · rw [if_neg hs]
      exact Int.le_refl _
  omega
/-- the class's sweep, at item i: the values with all that C gives and what the ones of S before i take; blocked as it says -/
def gd_can (th : Nat → Bool) (nv : Nat → Nat → Int) (fl : Nat → Int) (S : Nat → Bool) (af : Nat → Int) (i : Nat) : Prop := ∀ p, p < 300 → nv i p < 0 → (∀ j, j < i → th j = true → S j = false → nv j p < 0 → False) ∧ fl p ≤ af p + nv i p
theorem gd_drop {n : Nat} {th : Nat → Bool} {nv : Nat → Nat → Int} {va fl : Nat → Int} {C S : Nat → Bool} {af : Nat → Int} {i : Nat} (hS : ∀ k, k < n → S k = true → th k = true) (hSC : ∀ k, k < n → S k = true → C k = true) (h : gd_sub n th nv va fl S) (hi : i < n) (haf : ∀ p, p < 300 → af p = va p + sm (gd_G nv C p) n + sm (gd_K nv S p) i) (hno : ¬ gd_can th nv fl S af i) : gd_sub n th nv va fl (va_up S i false) := by
  refine gd_sub_off h (fun G hG hGi => hno (fun p hp htk => ⟨fun j hj hth hns hjt => ?_, ?_⟩))
  · have := h G hG j (by omega) (hG.2.1 i j p hi hj hp hGi hth htk hjt)
    rw [hns] at this
    cases this
  · have h2 := hG.2.2 p hp
    have h1 : sm (gd_T nv G p) n ≤ sm (fun k => (gd_G nv C p k + (if k < i then gd_K nv S p k else 0)) + (if k = i then nv k p else 0)) n := by
      refine sm_le (fun k hk => ?_)
      unfold gd_T gd_G gd_K
      by_cases hg : G k = true
      · have hs := h G hG k hk hg
        have hc := hSC k hk hs
        rw [if_pos hg]
        by_cases hpos : 0 < nv k p
        · rw [if_pos ⟨hc, hpos⟩]
          by_cases e : k = i
          · subst e; omega
          · rw [if_neg e]
            by_cases hlt : k < i
            · rw [if_pos hlt, if_neg (fun q => by have := q.2; omega)]; omega
            · rw [if_neg hlt]; omega
        · rw [if_neg (fun q => hpos q.2)]
          by_cases e : k = i
          · subst e
            rw [if_neg (Nat.lt_irrefl k), if_pos rfl]; omega
          · rw [if_neg e]
            by_cases hlt : k < i
            · rw [if_pos hlt]
              by_cases hneg : nv k p < 0
              · rw [if_pos ⟨hs, hneg⟩]; omega
              · rw [if_neg (fun q => hneg q.2)]; omega
            · rw [if_neg hlt]; omega
      · rw [if_neg hg]
        have e : ¬ k = i := fun q => hg (by rw [q]; exact hGi)
        rw [if_neg e]
        have hz : (if k < i then (if S k = true ∧ nv k p < 0 then nv k p else 0) else 0) = 0 := by
          by_cases hlt : k < i
          · rw [if_pos hlt]
            by_cases hq : S k = true ∧ nv k p < 0
            · exact absurd (hG.2.1 i k p hi hlt hp hGi (hS k hk hq.1) htk hq.2) hg
            · rw [if_neg hq]
          · rw [if_neg hlt]
        rw [hz]
        by_cases hq : C k = true ∧ 0 < nv k p
        · rw [if_pos hq]; have := hq.2; omega
        · rw [if_neg hq]; omega
    rw [sm_add, sm_add, sm_upto n (Nat.le_of_lt hi), sm_single (f := fun k => nv k p) n hi] at h1
    have h3 := haf p hp
    omega
/-- a sweep that drops none: the set is good -/
theorem gd_sweep {n : Nat} {th : Nat → Bool} {nv : Nat → Nat → Int} {va fl : Nat → Int} {C : Nat → Bool} (hC : ∀ k, k < n → C k = true → th k = true) (hvf : ∀ p, p < 300 → fl p ≤ va p) (hcan : ∀ i, i < n → C i = true → gd_can th nv fl C (fun p => va p + sm (gd_G nv C p) n + sm (gd_K nv C p) i) i) : gd_good n th nv va fl C := by
  refine ⟨hC, fun i j p hi hj hp hs hth h1 h2 => ?_, fun p hp => ?_⟩
  · cases hc : C j with
    | true => rfl
    | false => exact ((hcan i hi hs p hp h1).1 j hj hth hc h2).elim
  · rw [gd_split]
    have hg : 0 ≤ sm (gd_G nv C p) n := sm_nonneg (fun k _ => by
      unfold gd_G
      by_cases hq : C k = true ∧ 0 < nv k p
      · rw [if_pos hq]; have := hq.2; omega
      · rw [if_neg hq]; omega)
    have key : ∀ i, i ≤ n → fl p ≤ va p + sm (gd_G nv C p) n + sm (gd_K nv C p) i := by
      intro i
      induction i with
      | zero =>
        intro _
        have := hvf p hp
        show fl p ≤ va p + sm (gd_G nv C p) n + 0
        omega
      | succ i ih =>
        intro hi
        have h1 := ih (by omega)
        rw [sm_succ]
        by_cases hq : C i = true ∧ nv i p < 0
        · have h2 := (hcan i (by omega) hq.1 p hp hq.2).2
          have e : gd_K nv C p i = nv i p := if_pos hq
          rw [e]
          have h2 : fl p ≤ va p + sm (gd_G nv C p) n + sm (gd_K nv C p) i + nv i p := h2
          omega
        · have e : gd_K nv C p i = 0 := if_neg hq
          rw [e]
          omega
    have := key n (Nat.le_refl n)
    omega
/-- the reference's end: no position below its floor, none lacks -/
theorem gd_done {n : Nat} {th : Nat → Bool} {nv : Nat → Nat → Int} {va fl : Nat → Int} {S : Nat → Bool} (hS : ∀ k, k < n → S k = true → th k = true) (h1 : ∀ p, p < 300 → fl p ≤ va p + sm (gd_T nv S p) n) (h2 : ∀ i, i < n → S i = true → ∀ j, j < i → th j = true → S j = false → ∀ p, p < 300 → nv i p < 0 → nv j p < 0 → False) : gd_good n th nv va fl S := by
  refine ⟨hS, fun i j p hi hj hp hs hth h3 h4 => ?_, h1⟩
  cases hc : S j with
  | true => rfl
  | false => exact (h2 i hi hs j hj hth hc p hp h3 h4).elim
