/-! THE WORLDS: the class's cells, the reference's cells; an item is three cells of a pool -/
abbrev i_ob (a : Nat × Nat × Nat) (t s : Bool) (u : Nat) : Nat × va_E := (a.1, .inr (ciI, [.ref a.2.1, .ref a.2.2, .int (nI u), .int (bI t), .int (bI s)]))
abbrev i_pc (K : Nat → ClassId) (a : Nat × Nat × Nat) (f : Nat → Nat) : Nat × va_E := (a.2.1, .inl (K 1, 16, .inl (fun k => nI (f k))))
abbrev i_ac (K : Nat → ClassId) (a : Nat × Nat × Nat) (f : Nat → Int64) : Nat × va_E := (a.2.2, .inl (K 0, 16, .inr (.inl f)))
/-- there, in the set, slots used; the slots' positions and amounts -/
def it_c (K : Nat → ClassId) (ad : Nat → Nat × Nat × Nat) (T S : Nat → Bool) (us : Nat → Nat) (ps : Nat → Nat → Nat) (am : Nat → Nat → Int64) (j : Nat) : Nat × va_E := if j % 3 = 0 then i_ob (ad (j / 3)) (T (j / 3)) (S (j / 3)) (us (j / 3)) else if j % 3 = 1 then i_pc K (ad (j / 3)) (ps (j / 3)) else i_ac K (ad (j / 3)) (am (j / 3))
def it_w (K : Nat → ClassId) (ad : Nat → Nat × Nat × Nat) (T S : Nat → Bool) (us : Nat → Nat) (ps : Nat → Nat → Nat) (am : Nat → Nat → Int64) (n : Nat) : va_W := (List.range (3 * n)).map (it_c K ad T S us ps am)
theorem up_same {α : Type} (f : Nat → α) (k : Nat) : va_up f k (f k) = f := by
  funext j
  unfold va_up
  by_cases e : j = k
  · rw [if_pos e, e]
  · rw [if_neg e]
section ITW
variable {K : Nat → ClassId} {ad : Nat → Nat × Nat × Nat} {T S T' S' : Nat → Bool} {us us' : Nat → Nat} {ps ps' : Nat → Nat → Nat} {am am' : Nat → Nat → Int64} {n i : Nat}
theorem it_len : (it_w K ad T S us ps am n).length = 3 * n := by simp [it_w]
theorem it_get {j : Nat} (h : j < 3 * n) : (it_w K ad T S us ps am n)[j]? = some (it_c K ad T S us ps am j) := by simp [it_w, h]
theorem it_c0 : it_c K ad T S us ps am (3 * i) = i_ob (ad i) (T i) (S i) (us i) := by
  unfold it_c
  rw [if_pos (by omega), show 3 * i / 3 = i by omega]
theorem it_c1 : it_c K ad T S us ps am (3 * i + 1) = i_pc K (ad i) (ps i) := by
  unfold it_c
  rw [if_neg (by omega), if_pos (by omega), show (3 * i + 1) / 3 = i by omega]
theorem it_c2 : it_c K ad T S us ps am (3 * i + 2) = i_ac K (ad i) (am i) := by
  unfold it_c
  rw [if_neg (by omega), if_neg (by omega), show (3 * i + 2) / 3 = i by omega]
theorem it_set {j : Nat} {v : Nat × va_E} (h : j < 3 * n) (hv : it_c K ad T' S' us' ps' am' j = v) (ho : ∀ k, ¬ k = j → it_c K ad T' S' us' ps' am' k = it_c K ad T S us ps am k) : (it_w K ad T S us ps am n).set j v = it_w K ad T' S' us' ps' am' n := by
  apply List.ext_getElem?
  intro k
  by_cases e : k = j
  · subst e
    rw [List.getElem?_set_self (by rw [it_len]; exact h), it_get h, hv]
  · rw [List.getElem?_set_ne (fun q => e q.symm)]
    by_cases hk : k < 3 * n
    · rw [it_get hk, it_get hk, ho k e]
    · rw [List.getElem?_eq_none (by rw [it_len]; omega), List.getElem?_eq_none (by rw [it_len]; omega)]
theorem it_set0 {t s : Bool} {u : Nat} (hi : i < n) : (it_w K ad T S us ps am n).set (3 * i) (i_ob (ad i) t s u) = it_w K ad (va_up T i t) (va_up S i s) (va_up us i u) ps am n := by
  refine it_set (by omega) (by rw [it_c0, va_up_self, va_up_self, va_up_self]) (fun k hk => ?_)
  unfold it_c
  by_cases e : k / 3 = i
  · rw [if_neg (show ¬ k % 3 = 0 by omega), if_neg (show ¬ k % 3 = 0 by omega)]
  · rw [va_up_ne T t e, va_up_ne S s e, va_up_ne us u e]
theorem it_set1 {f : Nat → Nat} (hi : i < n) : (it_w K ad T S us ps am n).set (3 * i + 1) (i_pc K (ad i) f) = it_w K ad T S us (va_up ps i f) am n := by
  refine it_set (by omega) (by rw [it_c1, va_up_self]) (fun k hk => ?_)
  unfold it_c
  by_cases e : k / 3 = i
  · rw [if_neg (show ¬ k % 3 = 1 by omega), if_neg (show ¬ k % 3 = 1 by omega)]
  · rw [va_up_ne ps f e]
theorem it_set2 {f : Nat → Int64} (hi : i < n) : (it_w K ad T S us ps am n).set (3 * i + 2) (i_ac K (ad i) f) = it_w K ad T S us ps (va_up am i f) n := by
  refine it_set (by omega) (by rw [it_c2, va_up_self]) (fun k hk => ?_)
  unfold it_c
  by_cases e : k / 3 = i
  · by_cases e0 : k % 3 = 0
    · rw [if_pos e0, if_pos e0]
    · rw [if_neg e0, if_neg e0, if_pos (by omega), if_pos (by omega)]
  · rw [va_up_ne am f e]
/-- the pool grows by an item -/
theorem it_push {a : Nat × Nat × Nat} {t s : Bool} {u : Nat} {f : Nat → Nat} {g : Nat → Int64} : it_w K ad T S us ps am n ++ [i_ob a t s u, i_pc K a f, i_ac K a g] = it_w K (va_up ad n a) (va_up T n t) (va_up S n s) (va_up us n u) (va_up ps n f) (va_up am n g) (n + 1) := by
  have h0 : ∀ k, k < 3 * n → it_c K (va_up ad n a) (va_up T n t) (va_up S n s) (va_up us n u) (va_up ps n f) (va_up am n g) k = it_c K ad T S us ps am k := by
    intro k hk
    unfold it_c
    have e : ¬ k / 3 = n := by omega
    rw [va_up_ne ad a e, va_up_ne T t e, va_up_ne S s e, va_up_ne us u e, va_up_ne ps f e, va_up_ne am g e]
  apply List.ext_getElem?
  intro k
  by_cases hk : k < 3 * n
  · rw [List.getElem?_append_left (by rw [it_len]; exact hk), it_get hk, it_get (by omega), h0 k hk]
  · rw [List.getElem?_append_right (by rw [it_len]; omega), it_len]
    by_cases e0 : k = 3 * n
    · subst e0
      rw [it_get (by omega), it_c0, va_up_self, va_up_self, va_up_self, va_up_self, Nat.sub_self]
      rfl
    · by_cases e1 : k = 3 * n + 1
      · subst e1
        rw [it_get (by omega), it_c1, va_up_self, va_up_self, show 3 * n + 1 - 3 * n = 1 by omega]
        rfl
      · by_cases e2 : k = 3 * n + 2
        · subst e2
          rw [it_get (by omega), it_c2, va_up_self, va_up_self, show 3 * n + 2 - 3 * n = 2 by omega]
          rfl
        · rw [List.getElem?_eq_none (by simp; omega), List.getElem?_eq_none (by rw [it_len]; omega)]
end ITW
/-- which object stands in the class's row of items -/
def itf (n : Nat) (ad : Nat → Nat × Nat × Nat) : Nat → Option Nat := fun j => if j < n then some (ad j).1 else none
theorem itf_at {n j : Nat} {ad : Nat → Nat × Nat × Nat} (h : j < n) : itf n ad j = some (ad j).1 := if_pos h
theorem itf_push {n : Nat} {ad : Nat → Nat × Nat × Nat} {a : Nat × Nat × Nat} : va_up (itf n ad) n (some a.1) = itf (n + 1) (va_up ad n a) := by
  funext j
  unfold itf
  by_cases e : j = n
  · subst e
    rw [va_up_self, if_pos (by omega), va_up_self]
  · rw [va_up_ne _ _ e]
    by_cases h : j < n
    · rw [if_pos h, if_pos (by omega), va_up_ne _ _ e]
    · rw [if_neg h, if_neg (by omega)]
/-- the class: six cells, whatever else, the pool -/
def dR (R : va_W) (o : Nat → Nat) (K : Nat → ClassId) (va fl af : Nat → Int64) (bl : Nat → Bool) (im : Nat → Option Nat) (nc tc sc : Nat) (pl : va_W) : va_W :=
  (o 0, .inr (ciD, [.ref (o 1), .ref (o 2), .ref (o 3), .int (nI nc), .int (nI tc), .int (nI sc), .ref (o 4), .ref (o 5)])) ::
  (o 1, .inl (K 0, 300, .inr (.inl va))) :: (o 2, .inl (K 0, 300, .inr (.inl fl))) :: (o 3, .inl (K 3, 200, .inr (.inr (.inr (.inr im))))) ::
  (o 4, .inl (K 0, 300, .inr (.inl af))) :: (o 5, .inl (K 2, 300, .inl (fun k => bI (bl k)))) :: (R ++ pl)
def dW (R : va_W) (o : Nat → Nat) (K : Nat → ClassId) (ad : Nat → Nat × Nat × Nat) (va fl af : Nat → Int64) (bl : Nat → Bool) (n tc sc : Nat) (T S : Nat → Bool) (us : Nat → Nat) (ps : Nat → Nat → Nat) (am : Nat → Nat → Int64) : va_W := dR R o K va fl af bl (itf n ad) n tc sc (it_w K ad T S us ps am n)
/-- the reference: eight cells, whatever else -/
def mW (R : va_W) (o : Nat → Nat) (K : Nat → ClassId) (va fl : Nat → Int64) (n : Nat) (th ch : Nat → Bool) (mn po : Nat → Nat) (am : Nat → Int64) : va_W :=
  (o 0, .inr (ciM, [.ref (o 1), .ref (o 2), .int (nI n), .ref (o 3), .ref (o 4), .ref (o 5), .ref (o 6), .ref (o 7)])) ::
  (o 1, .inl (K 0, 300, .inr (.inl va))) :: (o 2, .inl (K 0, 300, .inr (.inl fl))) :: (o 3, .inl (K 2, 200, .inl (fun k => bI (th k)))) :: (o 4, .inl (K 2, 200, .inl (fun k => bI (ch k)))) ::
  (o 5, .inl (K 1, 200, .inl (fun k => nI (mn k)))) :: (o 6, .inl (K 1, 3200, .inl (fun k => nI (po k)))) :: (o 7, .inl (K 0, 3200, .inr (.inl am))) :: R
section DWL
variable {R : va_W} {o : Nat → Nat} {K : Nat → ClassId} {ad : Nat → Nat × Nat × Nat} {va fl af : Nat → Int64} {bl : Nat → Bool} {n tc sc i : Nat} {T S : Nat → Bool} {us : Nat → Nat} {ps : Nat → Nat → Nat} {am : Nat → Nat → Int64}
theorem dW_pos (j : Nat) (w : va_W) (x0 x1 x2 x3 x4 x5 : Nat × va_E) : (x0 :: x1 :: x2 :: x3 :: x4 :: x5 :: (R ++ w))[6 + (R.length + j)]? = w[j]? := by
  rw [show 6 + (R.length + j) = R.length + j + 1 + 1 + 1 + 1 + 1 + 1 by omega]
  simp only [List.getElem?_cons_succ]
  rw [List.getElem?_append_right (by omega), Nat.add_sub_cancel_left]
theorem dW_upd (j : Nat) (w : va_W) (v x0 x1 x2 x3 x4 x5 : Nat × va_E) : (x0 :: x1 :: x2 :: x3 :: x4 :: x5 :: (R ++ w)).set (6 + (R.length + j)) v = x0 :: x1 :: x2 :: x3 :: x4 :: x5 :: (R ++ w.set j v) := by
  rw [show 6 + (R.length + j) = R.length + j + 1 + 1 + 1 + 1 + 1 + 1 by omega]
  simp only [List.set_cons_succ]
  rw [List.set_append_right _ _ (by omega), Nat.add_sub_cancel_left]
theorem dW_0 (hi : i < n) : (dW R o K ad va fl af bl n tc sc T S us ps am)[6 + (R.length + 3 * i)]? = some (i_ob (ad i) (T i) (S i) (us i)) := by
  refine (dW_pos (3 * i) _ _ _ _ _ _ _).trans ?_
  rw [it_get (by omega), it_c0]
theorem dW_1 (hi : i < n) : (dW R o K ad va fl af bl n tc sc T S us ps am)[6 + (R.length + (3 * i + 1))]? = some (i_pc K (ad i) (ps i)) := by
  refine (dW_pos (3 * i + 1) _ _ _ _ _ _ _).trans ?_
  rw [it_get (by omega), it_c1]
theorem dW_2 (hi : i < n) : (dW R o K ad va fl af bl n tc sc T S us ps am)[6 + (R.length + (3 * i + 2))]? = some (i_ac K (ad i) (am i)) := by
  refine (dW_pos (3 * i + 2) _ _ _ _ _ _ _).trans ?_
  rw [it_get (by omega), it_c2]
theorem dW_s0 {t s : Bool} {u : Nat} (hi : i < n) : (dW R o K ad va fl af bl n tc sc T S us ps am).set (6 + (R.length + 3 * i)) (i_ob (ad i) t s u) = dW R o K ad va fl af bl n tc sc (va_up T i t) (va_up S i s) (va_up us i u) ps am := by
  refine (dW_upd (3 * i) _ _ _ _ _ _ _ _).trans ?_
  rw [it_set0 hi]
  rfl
theorem dW_s1 {f : Nat → Nat} (hi : i < n) : (dW R o K ad va fl af bl n tc sc T S us ps am).set (6 + (R.length + (3 * i + 1))) (i_pc K (ad i) f) = dW R o K ad va fl af bl n tc sc T S us (va_up ps i f) am := by
  refine (dW_upd (3 * i + 1) _ _ _ _ _ _ _ _).trans ?_
  rw [it_set1 hi]
  rfl
theorem dW_s2 {f : Nat → Int64} (hi : i < n) : (dW R o K ad va fl af bl n tc sc T S us ps am).set (6 + (R.length + (3 * i + 2))) (i_ac K (ad i) f) = dW R o K ad va fl af bl n tc sc T S us ps (va_up am i f) := by
  refine (dW_upd (3 * i + 2) _ _ _ _ _ _ _ _).trans ?_
  rw [it_set2 hi]
  rfl
theorem dW_su {u : Nat} (hi : i < n) : (dW R o K ad va fl af bl n tc sc T S us ps am).set (6 + (R.length + 3 * i)) (i_ob (ad i) (T i) (S i) u) = dW R o K ad va fl af bl n tc sc T S (va_up us i u) ps am := by
  have e := dW_s0 (R := R) (o := o) (K := K) (ad := ad) (va := va) (fl := fl) (af := af) (bl := bl) (tc := tc) (sc := sc) (T := T) (S := S) (us := us) (ps := ps) (am := am) (t := T i) (s := S i) (u := u) hi
  rw [up_same T i, up_same S i] at e
  exact e
theorem dW_st {t : Bool} (hi : i < n) : (dW R o K ad va fl af bl n tc sc T S us ps am).set (6 + (R.length + 3 * i)) (i_ob (ad i) t (S i) (us i)) = dW R o K ad va fl af bl n tc sc (va_up T i t) S us ps am := by
  have e := dW_s0 (R := R) (o := o) (K := K) (ad := ad) (va := va) (fl := fl) (af := af) (bl := bl) (tc := tc) (sc := sc) (T := T) (S := S) (us := us) (ps := ps) (am := am) (t := t) (s := S i) (u := us i) hi
  rw [up_same us i, up_same S i] at e
  exact e
theorem dW_ss {t : Bool} (hi : i < n) : (dW R o K ad va fl af bl n tc sc T S us ps am).set (6 + (R.length + 3 * i)) (i_ob (ad i) (T i) t (us i)) = dW R o K ad va fl af bl n tc sc T (va_up S i t) us ps am := by
  have e := dW_s0 (R := R) (o := o) (K := K) (ad := ad) (va := va) (fl := fl) (af := af) (bl := bl) (tc := tc) (sc := sc) (T := T) (S := S) (us := us) (ps := ps) (am := am) (t := T i) (s := t) (u := us i) hi
  rw [up_same us i, up_same T i] at e
  exact e
end DWL
theorem upd_nI (f : Nat → Nat) (k v : Nat) : upd (fun j => nI (f j)) k (nI v) = fun j => nI (va_up f k v j) := by
  funext j
  unfold upd va_up
  by_cases e : j = k
  · rw [if_pos e, if_pos e]
  · rw [if_neg e, if_neg e]
theorem upd_bI (f : Nat → Bool) (k : Nat) (v : Bool) : upd (fun j => bI (f j)) k (vp_nar .boolean (bI v)) = fun j => bI (va_up f k v j) := by
  rw [bI_nar]
  funext j
  unfold upd va_up
  by_cases e : j = k
  · rw [if_pos e, if_pos e]
  · rw [if_neg e, if_neg e]
theorem updL_up (f : Nat → Int64) (k : Nat) (v : Int64) : vp_updL f k v = va_up f k v := rfl
