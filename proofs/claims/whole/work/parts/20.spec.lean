/-! WORDS FOR ANSWERS -/
def isP (x : Int32) : Bool := decide (¬ x < 0 ∧ ¬ nI 300 ≤ x)
def isV (v : Int64) : Bool := decide (¬ v < (-1000000000000000000) ∧ ¬ 1000000000000000000 < v)
theorem b0 {b : Bool} (h : b = false) : nI 0 = bI b := by rw [h]; decide
theorem b1 {b : Bool} (h : b = true) : nI 1 = bI b := by rw [h]; decide
theorem rt0 {b : Bool} (h : b = false) : Outcome.returned (some (Value.int (nI 0))) = Outcome.returned (some (Value.int (bI b))) := by rw [← b0 h]
theorem rt1 {b : Bool} (h : b = true) : Outcome.returned (some (Value.int (nI 1))) = Outcome.returned (some (Value.int (bI b))) := by rw [← b1 h]
theorem rti {x y : Int32} (h : x = y) : Outcome.returned (some (Value.int x)) = Outcome.returned (some (Value.int y)) := by rw [h]
theorem rtl {x y : Int64} (h : x = y) : Outcome.returned (some (Value.long x)) = Outcome.returned (some (Value.long y)) := by rw [h]
theorem isP_of {x : Int32} (h : isP x = true) : ∃ p : Nat, p < 300 ∧ x = nI p := by
  have h := of_decide_eq_true h
  rcases pk_ix x (n := 300) (by decide) with q | q | q
  · exact absurd q h.1
  · exact absurd q h.2
  · exact q
theorem isP_nI {p : Nat} (h : p < 300) : isP (nI p) = true := decide_eq_true ⟨nI_pos (by omega), nI_ge h (by decide)⟩
theorem isV_of {v : Int64} (h : isV v = true) : -1000000000000000000 ≤ v.toInt ∧ v.toInt ≤ 1000000000000000000 := by
  have h := of_decide_eq_true h
  rw [i64_lt, i64_lt] at h
  have e1 : (-1000000000000000000 : Int64).toInt = -1000000000000000000 := by decide
  have e2 : (1000000000000000000 : Int64).toInt = 1000000000000000000 := by decide
  rw [e1, e2] at h
  omega
/-- the slot of a position, or -1 -/
def slR (ps : Nat → Nat) (x : Int32) (u : Nat) : Int32 := if fs (qx ps x) u 0 < u then nI (fs (qx ps x) u 0) else (-1)
theorem fs_eq {q : Nat → Bool} {u k : Nat} (hk : k < u) (h : q k = true) (hm : ∀ j, j < k → q j = false) : fs q u 0 = k := by
  have h1 := fs_le q u 0
  rcases Nat.lt_trichotomy (fs q u 0) k with z | z | z
  · have := fs_hit q u 0 (by omega)
    rw [hm _ z] at this
    cases this
  · exact z
  · have := fs_miss q u 0 k (Nat.zero_le k) z
    rw [h] at this
    cases this
theorem fs_no {q : Nat → Bool} {u : Nat} (hm : ∀ j, j < u → q j = false) : fs q u 0 = u := by
  have h1 := fs_le q u 0
  rcases Nat.lt_or_ge (fs q u 0) u with z | z
  · have := fs_hit q u 0 (by omega)
    rw [hm _ z] at this
    cases this
  · omega
theorem slR_hit {ps : Nat → Nat} {x : Int32} {u k : Nat} (hk : k < u) (h : nI (ps k) = x) (hm : ∀ j, j < k → ¬ nI (ps j) = x) : nI k = slR ps x u := by
  unfold slR
  rw [fs_eq hk (show qx ps x k = true from decide_eq_true h) (fun j hj => decide_eq_false (hm j hj)), if_pos hk]
theorem slR_no {ps : Nat → Nat} {x : Int32} {u : Nat} (hm : ∀ j, j < u → ¬ nI (ps j) = x) : (-1) = slR ps x u := by
  unfold slR
  rw [fs_no (q := qx ps x) (fun j hj => decide_eq_false (hm j hj)), if_neg (Nat.lt_irrefl u)]
theorem slR_or (ps : Nat → Nat) (x : Int32) (u : Nat) : (fs (qx ps x) u 0 < u ∧ slR ps x u = nI (fs (qx ps x) u 0)) ∨ (¬ fs (qx ps x) u 0 < u ∧ slR ps x u = (-1)) := by
  by_cases h : fs (qx ps x) u 0 < u
  · exact Or.inl ⟨h, if_pos h⟩
  · exact Or.inr ⟨h, if_neg h⟩
theorem ntq_hit {q : Nat → Bool} {u : Nat} {am : Nat → Int64} (h : fs q u 0 < u) : am (fs q u 0) = ntq q u am := (if_pos h).symm
theorem ntq_no {q : Nat → Bool} {u : Nat} {am : Nat → Int64} (h : ¬ fs q u 0 < u) : 0 = ntq q u am := (if_neg h).symm
def cntS (x : Int32) (n tc sc : Nat) : Int32 := if x = nI 0 then nI n else if x = nI 1 then nI tc else if x = nI 2 then nI sc else (-1)
