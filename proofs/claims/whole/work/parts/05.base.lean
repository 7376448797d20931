/-! WORDS, CONTEXT, CALLS: one list of words for all methods; what a walk stands on; a call of a method that only answers, a call of one that writes -/
def tIsA : Cond → Bool
  | .arrayClass _ => true
  | _ => false
def tIsN : Cond → Bool
  | .fieldLinkNest _ _ _ _ _ _ => true
  | .methodLinkNest _ _ _ _ => true
  | _ => false
def tGd (w : Cond) : Bool := (w.onTables && w.keeps) || tIsA w
/-- all words of the tables that stay -/
def tT : List Cond := lw_tbl.filter tGd
/-- the words of nest mates -/
def nW : List Cond := lw_tbl.filter tIsN
theorem tT_good : ∀ w ∈ tT, (w.onTables && w.keeps) = true ∨ ∃ ty, w = .arrayClass ty := by
  intro w hw
  have h := (List.mem_filter.mp hw).2
  unfold tGd at h
  rcases Bool.or_eq_true_iff.mp h with h | h
  · exact Or.inl h
  · cases w with
    | arrayClass ty => exact Or.inr ⟨ty, rfl⟩
    | _ => cases h
theorem tT_of {args : Array Value} {s : State} (h : ∀ w ∈ lw_tbl, w.before args s = true) : ∀ w ∈ tT, w.before args s = true := fun w hw => h w (List.mem_filter.mp hw).1
theorem nW_warm {s U : State} (hW : s.WarmedH U.vm) (h : ∀ w ∈ nW, va_Nw w s) : ∀ w ∈ nW, va_Nw w U := by
  intro w hw
  have h1 := h w hw
  have h2 := (List.mem_filter.mp hw).2
  cases w with
  | fieldLinkNest a i b n d k => exact va_Nw.warmF hW h1
  | methodLinkNest a i x k => exact va_Nw.warmM hW h1
  | _ => cases h2
theorem nW_same {u U : State} (e : u.vm = U.vm) (h : ∀ w ∈ nW, va_Nw w u) : ∀ w ∈ nW, va_Nw w U := by
  intro w hw
  have h1 := h w hw
  have h2 := (List.mem_filter.mp hw).2
  cases w with
  | fieldLinkNest a i b n d k => exact va_Nw.same rfl e h1
  | methodLinkNest a i x k => exact va_Nw.same rfl e h1
  | _ => cases h2
theorem in_I : ∀ w ∈ u_ws RIt TI 5, w ∈ tT := by decide +kernel
theorem in_D : ∀ w ∈ u_ws RD TD 8, w ∈ tT := by decide +kernel
theorem in_M : ∀ w ∈ u_ws RM TM 8, w ∈ tT := by decide +kernel
/-- a method's words: its own code first -/
abbrev tC (y : MethodName) (b : ByteArray) (mL : Nat) (ret : Option FieldType) : List Cond := Cond.code y b mL ret :: tT
abbrev tyK (K : Nat → ClassId) : List (ClassId × FieldType) := [(K 0, .long), (K 1, .int), (K 2, .boolean), (K 3, .object RIt)]
/-- what a walk stands on -/
def cx (own : String) (D : va_G) (K : Nat → ClassId) (p : Program) (s : State) (m : MethodId) (args : Array Value) (c : Code) (cc : ByteArray) : Prop :=
  p.tables.exec = Jvm.exec ∧ c.code = cc ∧ s.vm.findClass own = some m.cls ∧ (∀ w ∈ tT, w.before args s = true) ∧ va_K D vwCl (tyK K) s ∧ (∀ w ∈ nW, va_Nw w s) ∧ va_AO RIt s
/-- a start: the arguments, the heap, the tables -/
def kP (D : va_G) (K : Nat → ClassId) (H : Heap) (As : List Value) : Array Value → State → Prop := va_Pc As (fun U => U.heap = H ∧ va_K D vwCl (tyK K) U ∧ (∀ w ∈ nW, va_Nw w U) ∧ va_AO RIt U)
theorem kP_blind {D : va_G} {K : Nat → ClassId} {H : Heap} {As : List Value} : FrameBlind (kP D K H As) := by
  intro a U g mk q
  obtain ⟨q0, q1, q2, q3, q4⟩ := q
  exact ⟨q0, q1, va_K.moved (u := U) (U := U.calling g mk a) (Vm.Alike.refl U.vm) q2, nW_same (u := U) (U := U.calling g mk a) rfl q3, va_AO.moved (u := U) (U := U.calling g mk a) (Vm.Alike.refl U.vm) q4⟩
section BASE
variable {p : Program} {l : Launch} {e : Env} {Rm : Room} {s : State} {m : MethodId} {args : Array Value} {below : List Frame} {meth : Method} {c : Code} {H : Heap} {locs : List Loc} {cells slots : Nat} {Q : State → Prop} {cc : ByteArray} {pc : Nat} {ls : Array Slot} {rest st0 : List Value} {own : String} {D : va_G} {K : Nat → ClassId} {A : Nat → Prop} {H0 : Heap} {As : List Value}
theorem tp_i {x y : Int32} (h : x = y) (kk : W p l e Rm s m args below meth c H locs cells slots Q (F0 m pc ls (.int y :: rest))) : W p l e Rm s m args below meth c H locs cells slots Q (F0 m pc ls (.int x :: rest)) := by
  rw [h]; exact kk
theorem tp_l {x y : Int64} (h : x = y) (kk : W p l e Rm s m args below meth c H locs cells slots Q (F0 m pc ls (.long y :: rest))) : W p l e Rm s m args below meth c H locs cells slots Q (F0 m pc ls (.long x :: rest)) := by
  rw [h]; exact kk
theorem kP_S (C : cx own D K p s m args c cc) : PreS s H (kP D K H As) As := ⟨kP_blind, fun _ hU hW => ⟨rfl, hU, va_K.moved hW.alike C.2.2.2.2.1, nW_warm hW C.2.2.2.2.2.1, va_AO.moved hW.alike C.2.2.2.2.2.2⟩⟩
theorem kP_V {Cn : String} {b : Addr} (C : cx own D K p s m args c cc) (hr : ∃ cellB : Cell, H[b]? = some cellB ∧ cellB.vm.isStatics = false ∧ s.vm.findClass Cn = some cellB.cls) : PreV s H Cn b (kP D K H (.ref b :: As)) As := ⟨kP_blind, hr, fun _ hU hW => ⟨rfl, hU, va_K.moved hW.alike C.2.2.2.2.1, nW_warm hW C.2.2.2.2.2.1, va_AO.moved hW.alike C.2.2.2.2.2.2⟩⟩
/-- a call of a method that only answers -/
theorem pv {r : Value} {a : Array Value} (hr : va_Run p l e Rm s m args below meth c H locs cells slots 0 0 (F0 m pc ls st0) rest (k2_QcV r a) (fun _ => False)) (kk : W p l e Rm s m args below meth c H locs cells slots Q (F0 m (pc + 3) ls (r :: rest))) : W p l e Rm s m args below meth c H locs cells slots Q (F0 m pc ls st0) := by
  intro T hT X
  obtain ⟨v, st₀, t, T', L, h0, X', hL, e1, e2, ⟨hv, hh⟩, st⟩ := hr T hT X
  cases hv
  obtain ⟨t2, a1, b1⟩ := kk T' (by rw [e1, hh, h0]) (Stand.forget X' (fun q h => (hL q h).elim))
  exact ⟨t2, st t2 a1, b1⟩
/-- the end of a method that writes: an answer and a new world -/
abbrev qV {Sg : Type} (D : va_G) (A : Nat → Prop) (post : Sg → Prop) (f : Sg → va_W) : Array Value → State → Outcome → State → Prop := va_Qv post (fun u t => va_P D vwCl (f u) t.heap ∧ va_D A (f u)) A
abbrev qI {Sg : Type} (D : va_G) (A : Nat → Prop) (post : Int32 → Sg → Prop) (f : Sg → va_W) : Array Value → State → Outcome → State → Prop := va_Qi post (fun u t => va_P D vwCl (f u) t.heap ∧ va_D A (f u)) A
theorem wv {Sg : Type} {post : Sg → Prop} {f : Sg → va_W} {mc ms : Nat} {a : Array Value} (hr : va_Run p l e Rm s m args below meth c H locs cells slots mc ms (F0 m pc ls st0) rest (qV D A post f a) A) (hS : va_S A H0 H locs) (kk : ∀ (u : Sg) (H1 : Heap) (locs1 : List Loc), post u → va_P D vwCl (f u) H1 → va_D A (f u) → va_S A H0 H1 locs1 → W p l e Rm s m args below meth c H1 locs1 (cells + mc) (slots + ms) Q (F0 m (pc + 3) ls rest)) : W p l e Rm s m args below meth c H locs cells slots Q (F0 m pc ls st0) :=
  va_callv hr hS (fun _ _ h => h) (fun _ h => h) (fun u t H1 locs1 ht _ hp hB _ _ hS1 => kk u H1 locs1 hp (ht ▸ hB.1) hB.2 hS1)
theorem wi {Sg : Type} {post : Int32 → Sg → Prop} {f : Sg → va_W} {mc ms : Nat} {a : Array Value} (hr : va_Run p l e Rm s m args below meth c H locs cells slots mc ms (F0 m pc ls st0) rest (qI D A post f a) A) (hS : va_S A H0 H locs) (kk : ∀ (r : Int32) (u : Sg) (H1 : Heap) (locs1 : List Loc), post r u → va_P D vwCl (f u) H1 → va_D A (f u) → va_S A H0 H1 locs1 → W p l e Rm s m args below meth c H1 locs1 (cells + mc) (slots + ms) Q (F0 m (pc + 3) ls (.int r :: rest))) : W p l e Rm s m args below meth c H locs cells slots Q (F0 m pc ls st0) :=
  va_calli hr hS (fun _ _ h => h) (fun _ h => h) (fun r u t H1 locs1 ht _ hp hB _ _ hS1 => kk r u H1 locs1 hp (ht ▸ hB.1) hB.2 hS1)
/-- a loop with a counter, that reads -/
theorem lpW {U pcH : Nat} {I : Nat → Array Slot → Prop} (hs : ∀ (k : Nat) (ls : Array Slot), k ≤ U → I k ls → (k < U → ∀ ls' : Array Slot, I (k + 1) ls' → W p l e Rm s m args below meth c H locs cells slots Q (F0 m pcH ls' [])) → W p l e Rm s m args below meth c H locs cells slots Q (F0 m pcH ls [])) : ∀ (k : Nat) (ls : Array Slot), k ≤ U → I k ls → W p l e Rm s m args below meth c H locs cells slots Q (F0 m pcH ls []) := by
  have h : ∀ (f k : Nat) (ls : Array Slot), U - k ≤ f → k ≤ U → I k ls → W p l e Rm s m args below meth c H locs cells slots Q (F0 m pcH ls []) := by
    intro f
    induction f with
    | zero => intro k ls h1 h2 h3; exact hs k ls h2 h3 (fun q => absurd q (by omega))
    | succ f ih => intro k ls h1 h2 h3; exact hs k ls h2 h3 (fun q ls' h4 => ih (k + 1) ls' (by omega) (by omega) h4)
  intro k ls
  exact h (U - k) k ls (Nat.le_refl _)
/-- a loop with a counter, that writes -/
theorem lpM {U pcH : Nat} {I : Nat → Array Slot → Heap → List Loc → Prop} (hs : ∀ (k : Nat) (ls : Array Slot) (H : Heap) (locs : List Loc), k ≤ U → I k ls H locs → (k < U → ∀ (ls' : Array Slot) (H' : Heap) (locs' : List Loc), I (k + 1) ls' H' locs' → W p l e Rm s m args below meth c H' locs' cells slots Q (F0 m pcH ls' [])) → W p l e Rm s m args below meth c H locs cells slots Q (F0 m pcH ls [])) : ∀ (k : Nat) (ls : Array Slot) (H : Heap) (locs : List Loc), k ≤ U → I k ls H locs → W p l e Rm s m args below meth c H locs cells slots Q (F0 m pcH ls []) := by
  have h : ∀ (f k : Nat) (ls : Array Slot) (H : Heap) (locs : List Loc), U - k ≤ f → k ≤ U → I k ls H locs → W p l e Rm s m args below meth c H locs cells slots Q (F0 m pcH ls []) := by
    intro f
    induction f with
    | zero => intro k ls H locs h1 h2 h3; exact hs k ls H locs h2 h3 (fun q => absurd q (by omega))
    | succ f ih => intro k ls H locs h1 h2 h3; exact hs k ls H locs h2 h3 (fun q ls' H' locs' h4 => ih (k + 1) ls' H' locs' (by omega) (by omega) h4)
  intro k ls H locs
  exact h (U - k) k ls H locs (Nat.le_refl _)
/-- a loop with a measure, that writes -/
theorem lpQ {α : Type} {pcH : Nat} {I : α → Array Slot → Heap → List Loc → Prop} (μ : α → Nat) (hs : ∀ (a : α) (ls : Array Slot) (H : Heap) (locs : List Loc), I a ls H locs → (∀ (a' : α) (ls' : Array Slot) (H' : Heap) (locs' : List Loc), μ a' < μ a → I a' ls' H' locs' → W p l e Rm s m args below meth c H' locs' cells slots Q (F0 m pcH ls' [])) → W p l e Rm s m args below meth c H locs cells slots Q (F0 m pcH ls [])) : ∀ (a : α) (ls : Array Slot) (H : Heap) (locs : List Loc), I a ls H locs → W p l e Rm s m args below meth c H locs cells slots Q (F0 m pcH ls []) := by
  have h : ∀ (f : Nat) (a : α) (ls : Array Slot) (H : Heap) (locs : List Loc), μ a < f → I a ls H locs → W p l e Rm s m args below meth c H locs cells slots Q (F0 m pcH ls []) := by
    intro f
    induction f with
    | zero => intro a ls H locs h1; exact absurd h1 (Nat.not_lt_zero _)
    | succ f ih => intro a ls H locs h1 h2; exact hs a ls H locs h2 (fun a' ls' H' locs' h3 h4 => ih a' ls' H' locs' (by omega) h4)
  intro a ls H locs
  exact h (μ a + 1) a ls H locs (Nat.lt_succ_self _)
end BASE
/-- the room of a method whose calls go k deep -/
abbrev rmK (k mc ms : Nat) : Room := { frames := k, cells := mc, slots := ms, locals := 28 * k }
/-- room for calls k deep -/
def rmOk (Rm : Room) (k cells slots : Nat) : Prop := k ≤ Rm.frames ∧ 28 * k ≤ Rm.locals ∧ cells ≤ Rm.cells ∧ slots ≤ Rm.slots
theorem rmF {Rm : Room} {k cells slots j mL mc ms : Nat} (h : rmOk Rm k cells slots) (hj : j + 1 ≤ k) (hm : mL ≤ 9) : (rmK j mc ms).frames + 1 ≤ Rm.frames ∧ 8 + (mL + 11) + (rmK j mc ms).locals ≤ Rm.locals := by
  obtain ⟨h1, h2, -, -⟩ := h
  exact ⟨by show j + 1 ≤ Rm.frames; omega, by show 8 + (mL + 11) + 28 * j ≤ Rm.locals; omega⟩
theorem gdT {ws : List Cond} (h : ∀ w ∈ ws, w ∈ tT) : GoodIn tT (ws ++ tT) := by
  intro w hw
  rcases List.mem_append.mp hw with q | q
  · exact ⟨h w q, tT_good w (h w q)⟩
  · exact ⟨q, tT_good w q⟩
theorem gdC {y : MethodName} {b : ByteArray} {mL : Nat} {ret : Option FieldType} (h : Cond.code y b mL ret ∈ tT) : GoodIn tT (tC y b mL ret) := gdT (ws := [Cond.code y b mL ret]) (fun w q => by rw [List.mem_singleton.mp q]; exact h)
