/-! the memory: 214 cells by number; scalars S cell slot, places of arrays A cell place, which plan is in use -/
abbrev qA2 : Type := Nat → Nat → Int32
abbrev qB : Type := Nat × Nat
abbrev qE : Type := va_G × ClassId × ClassId × ClassId × ClassId
abbrev qT (E : qE) : List (ClassId × FieldType) := [(E.2.1, .int), (E.2.2.1, .boolean), (E.2.2.2.1, .object RX2), (E.2.2.2.2, .object RX9)]
def qkL : List Nat := [10, 7, 12, 9, 12, 12, 12, 12, 12, 9, 12, 12, 12, 12, 12, 4, 15, 9, 12, 12, 12, 12, 12, 9, 12, 12, 12, 12, 12, 9, 12, 12, 12, 12, 12, 9, 12, 12, 12, 12, 12, 9, 12, 12, 12, 12, 12, 9, 12, 12, 12, 12, 12, 9, 12, 12, 12, 12, 12, 9, 12, 12, 12, 12, 12, 9, 12, 12, 12, 12, 12, 9, 12, 12, 12, 12, 12, 9, 12, 12, 12, 12, 12, 9, 12, 12, 12, 12, 12, 9, 12, 12, 12, 12, 12, 9, 12, 12, 12, 12, 12, 9, 12, 12, 12, 12, 12, 9, 12, 12, 12, 12, 12, 9, 12, 12, 12, 12, 12, 9, 12, 12, 12, 12, 12, 9, 12, 12, 12, 12, 12, 9, 12, 12, 12, 12, 12, 1, 14, 2, 9, 12, 12, 12, 12, 12, 2, 9, 12, 12, 12, 12, 12, 3, 12, 12, 9, 12, 12, 12, 12, 12, 8, 12, 6, 12, 12, 12, 12, 8, 12, 0, 12, 12, 5, 12, 12, 12, 12, 12, 12, 5, 12, 12, 12, 12, 12, 12, 11, 12, 12, 12, 12, 12, 12, 12, 12, 12, 12, 12, 12, 12, 12, 12, 13, 12, 12, 12, 12, 12, 12, 12, 12, 13]
def qlL : List Nat := [0, 0, 240, 0, 12, 6, 6, 5, 5, 0, 12, 6, 6, 5, 5, 0, 20, 0, 12, 6, 6, 5, 5, 0, 12, 6, 6, 5, 5, 0, 12, 6, 6, 5, 5, 0, 12, 6, 6, 5, 5, 0, 12, 6, 6, 5, 5, 0, 12, 6, 6, 5, 5, 0, 12, 6, 6, 5, 5, 0, 12, 6, 6, 5, 5, 0, 12, 6, 6, 5, 5, 0, 12, 6, 6, 5, 5, 0, 12, 6, 6, 5, 5, 0, 12, 6, 6, 5, 5, 0, 12, 6, 6, 5, 5, 0, 12, 6, 6, 5, 5, 0, 12, 6, 6, 5, 5, 0, 12, 6, 6, 5, 5, 0, 12, 6, 6, 5, 5, 0, 12, 6, 6, 5, 5, 0, 12, 6, 6, 5, 5, 0, 12, 6, 6, 5, 5, 0, 2, 0, 0, 12, 6, 6, 5, 5, 0, 0, 12, 6, 6, 5, 5, 0, 6, 64, 0, 12, 6, 6, 5, 5, 0, 6, 0, 6, 6, 6, 6, 0, 6, 0, 15, 15, 0, 6, 6, 5, 5, 10, 10, 0, 6, 6, 5, 5, 10, 10, 0, 6, 5, 10, 10, 37, 240, 3, 6, 6, 5, 5, 10, 10, 740, 37, 64, 6, 6, 6, 6, 6, 15, 15, 76, 2]
def qk (i : Nat) : Nat := qkL.getD i 99
def ql (i : Nat) : Nat := qlL.getD i 0
def qo0 (ad : Nat → Nat) (i : Nat) (S : qA2) : List Value := [.int (S i 0), .ref (ad (i + 1)), .ref (ad (i + 2))]
def qo1 (ad : Nat → Nat) (i : Nat) (S : qA2) : List Value := [.int (S i 0)]
def qo2 (ad : Nat → Nat) (i : Nat) (S : qA2) : List Value := [.ref (ad (i + 1)), .int (S i 1), .int (S i 2)]
def qo3 (ad : Nat → Nat) (i : Nat) (S : qA2) : List Value := [.ref (ad (i + 1)), .int (S i 1), .ref (ad (i + 2)), .ref (ad (i + 3)), .ref (ad (i + 9))]
def qo4 (ad : Nat → Nat) (i : Nat) (S : qA2) : List Value := [.ref (ad (i + 1)), .int (S i 1), .int (S i 2)]
def qo5 (ad : Nat → Nat) (i : Nat) (S : qA2) : List Value := [.int (S i 0), .int (S i 1), .int (S i 2), .int (S i 3), .int (S i 4), .int (S i 5), .int (S i 6), .ref (ad (i + 1)), .ref (ad (i + 2)), .ref (ad (i + 3)), .ref (ad (i + 4)), .ref (ad (i + 5)), .ref (ad (i + 6))]
def qo6 (ad : Nat → Nat) (i : Nat) (S : qA2) : List Value := [.int (S i 0), .int (S i 1), .ref (ad (i + 1)), .ref (ad (i + 2)), .ref (ad (i + 3)), .ref (ad (i + 4)), .int (S i 6), .ref (ad (i + 5))]
def qo7 (ad : Nat → Nat) (i : Nat) (S : qA2) : List Value := [.ref (ad (i + 1)), .int (S i 1), .int (S i 2), .int (S i 3), .int (S i 4), .int (S i 5)]
def qo8 (ad : Nat → Nat) (i : Nat) (S : qA2) : List Value := [.ref (ad (i + 1)), .int (S i 1), .int (S i 2), .int (S i 3), .int (S i 4), .int (S i 5)]
def qo9 (ad : Nat → Nat) (i : Nat) (S : qA2) : List Value := [.ref (ad (i + 1)), .ref (ad (i + 2)), .ref (ad (i + 3)), .ref (ad (i + 4)), .ref (ad (i + 5)), .int (S i 5), .int (S i 6), .int (S i 7)]
def qo10 (ad : Nat → Nat) (b : qB) : List Value := [.ref (ad 1), .ref (ad 3), .ref (ad 9), .ref (ad 15), .ref (ad 137), .ref (ad 138), .ref (ad 153), .ref (ad 164), .ref (ad 171), .ref (ad b.1), .ref (ad b.2)]
def qo11 (ad : Nat → Nat) (i : Nat) (S : qA2) : List Value := [.int (S i 0), .int (S i 1), .int (S i 2), .int (S i 3), .int (S i 4), .ref (ad (i + 1)), .int (S i 6), .ref (ad (i + 2)), .int (S i 8), .ref (ad (i + 3)), .ref (ad (i + 4)), .ref (ad (i + 5)), .int (S i 12), .ref (ad (i + 6)), .int (S i 14), .int (S i 15), .int (S i 16), .int (S i 17), .int (S i 18), .ref (ad (i + 7)), .int (S i 20), .int (S i 21), .ref (ad (i + 8)), .ref (ad (i + 9)), .int (S i 24), .ref (ad (i + 10)), .ref (ad (i + 11)), .int (S i 27), .ref (ad (i + 12)), .ref (ad (i + 13)), .int (S i 30), .ref (ad (i + 14)), .ref (ad (i + 15)), .ref (ad (i + 16)), .ref (ad (i + 17)), .ref (ad (i + 18)), .int (S i 36), .ref (ad (i + 19)), .ref (ad (i + 20)), .ref (ad (i + 21)), .int (S i 40), .ref (ad (i + 22)), .ref (ad (i + 23)), .ref (ad (i + 24)), .ref (ad (i + 25))]
def qmem (E : qE) (ad : Nat → Nat) (S A : qA2) (b : qB) (i : Nat) : va_E := match qk i with
  | 0 => .inr (0, qo0 ad i S)
  | 1 => .inr (1, qo1 ad i S)
  | 2 => .inr (2, qo2 ad i S)
  | 3 => .inr (3, qo3 ad i S)
  | 4 => .inr (4, qo4 ad i S)
  | 5 => .inr (5, qo5 ad i S)
  | 6 => .inr (6, qo6 ad i S)
  | 7 => .inr (7, qo7 ad i S)
  | 8 => .inr (8, qo8 ad i S)
  | 9 => .inr (9, qo9 ad i S)
  | 10 => .inr (10, qo10 ad b)
  | 11 => .inr (11, qo11 ad i S)
  | 12 => .inl (E.2.1, ql i, .inl (A i))
  | 13 => .inl (E.2.2.1, ql i, .inl (A i))
  | 14 => .inl (E.2.2.2.1, ql i, .inr (.inr (.inr (.inr (fun k => some (ad (139 + 7 * k)))))))
  | _ => .inl (E.2.2.2.2, ql i, .inr (.inr (.inr (.inr (fun k => some (ad (17 + 6 * k)))))))
theorem qmem_0 (E : qE) (ad : Nat → Nat) (S A : qA2) (b : qB) {i : Nat} (h : qk i = 0) : qmem E ad S A b i = .inr (0, qo0 ad i S) := by unfold qmem; simp only [h]
theorem qmem_1 (E : qE) (ad : Nat → Nat) (S A : qA2) (b : qB) {i : Nat} (h : qk i = 1) : qmem E ad S A b i = .inr (1, qo1 ad i S) := by unfold qmem; simp only [h]
theorem qmem_2 (E : qE) (ad : Nat → Nat) (S A : qA2) (b : qB) {i : Nat} (h : qk i = 2) : qmem E ad S A b i = .inr (2, qo2 ad i S) := by unfold qmem; simp only [h]
theorem qmem_3 (E : qE) (ad : Nat → Nat) (S A : qA2) (b : qB) {i : Nat} (h : qk i = 3) : qmem E ad S A b i = .inr (3, qo3 ad i S) := by unfold qmem; simp only [h]
theorem qmem_4 (E : qE) (ad : Nat → Nat) (S A : qA2) (b : qB) {i : Nat} (h : qk i = 4) : qmem E ad S A b i = .inr (4, qo4 ad i S) := by unfold qmem; simp only [h]
theorem qmem_5 (E : qE) (ad : Nat → Nat) (S A : qA2) (b : qB) {i : Nat} (h : qk i = 5) : qmem E ad S A b i = .inr (5, qo5 ad i S) := by unfold qmem; simp only [h]
theorem qmem_6 (E : qE) (ad : Nat → Nat) (S A : qA2) (b : qB) {i : Nat} (h : qk i = 6) : qmem E ad S A b i = .inr (6, qo6 ad i S) := by unfold qmem; simp only [h]
theorem qmem_7 (E : qE) (ad : Nat → Nat) (S A : qA2) (b : qB) {i : Nat} (h : qk i = 7) : qmem E ad S A b i = .inr (7, qo7 ad i S) := by unfold qmem; simp only [h]
theorem qmem_8 (E : qE) (ad : Nat → Nat) (S A : qA2) (b : qB) {i : Nat} (h : qk i = 8) : qmem E ad S A b i = .inr (8, qo8 ad i S) := by unfold qmem; simp only [h]
theorem qmem_9 (E : qE) (ad : Nat → Nat) (S A : qA2) (b : qB) {i : Nat} (h : qk i = 9) : qmem E ad S A b i = .inr (9, qo9 ad i S) := by unfold qmem; simp only [h]
theorem qmem_10 (E : qE) (ad : Nat → Nat) (S A : qA2) (b : qB) {i : Nat} (h : qk i = 10) : qmem E ad S A b i = .inr (10, qo10 ad b) := by unfold qmem; simp only [h]
theorem qmem_11 (E : qE) (ad : Nat → Nat) (S A : qA2) (b : qB) {i : Nat} (h : qk i = 11) : qmem E ad S A b i = .inr (11, qo11 ad i S) := by unfold qmem; simp only [h]
theorem qmem_12 (E : qE) (ad : Nat → Nat) (S A : qA2) (b : qB) {i : Nat} (h : qk i = 12) : qmem E ad S A b i = .inl (E.2.1, ql i, .inl (A i)) := by unfold qmem; simp only [h]
theorem qmem_13 (E : qE) (ad : Nat → Nat) (S A : qA2) (b : qB) {i : Nat} (h : qk i = 13) : qmem E ad S A b i = .inl (E.2.2.1, ql i, .inl (A i)) := by unfold qmem; simp only [h]
theorem qmem_14 (E : qE) (ad : Nat → Nat) (S A : qA2) (b : qB) {i : Nat} (h : qk i = 14) : qmem E ad S A b i = .inl (E.2.2.2.1, ql i, .inr (.inr (.inr (.inr (fun k => some (ad (139 + 7 * k))))))) := by unfold qmem; simp only [h]
theorem qmem_15 (E : qE) (ad : Nat → Nat) (S A : qA2) (b : qB) {i : Nat} (h : qk i = 15) : qmem E ad S A b i = .inl (E.2.2.2.2, ql i, .inr (.inr (.inr (.inr (fun k => some (ad (17 + 6 * k))))))) := by unfold qmem; simp only [h]
def q2 (S : qA2) (o k : Nat) (v : Int32) : qA2 := fun i j => if i = o ∧ j = k then v else S i j
def qr (A : qA2) (o : Nat) (f : Nat → Int32) : qA2 := fun i => if i = o then f else A i
theorem q2_s (S : qA2) (o k : Nat) (v : Int32) : q2 S o k v o k = v := by simp [q2]
theorem q2_o (S : qA2) {o k i j : Nat} (v : Int32) (h : i ≠ o) : q2 S o k v i j = S i j := by simp [q2, h]
theorem q2_k (S : qA2) {o k i j : Nat} (v : Int32) (h : j ≠ k) : q2 S o k v i j = S i j := by simp [q2, h]
theorem q2_or (S : qA2) {o k i : Nat} (v : Int32) (h : i ≠ o) : q2 S o k v i = S i := by funext j; simp [q2, h]
theorem q2_row (S : qA2) (o k : Nat) (v : Int32) : q2 S o k v o = upd (S o) k v := by funext j; simp [q2, upd]
theorem qr_s (A : qA2) (o : Nat) (f : Nat → Int32) : qr A o f o = f := by simp [qr]
theorem qr_o (A : qA2) {o i : Nat} (f : Nat → Int32) (h : i ≠ o) : qr A o f i = A i := by simp [qr, h]
theorem qr_upd (A : qA2) (o k : Nat) (v : Int32) : qr A o (upd (A o) k v) = q2 A o k v := by
  funext i j
  simp only [qr, q2, upd]
  by_cases h : i = o
  · subst h
    by_cases h2 : j = k <;> simp [upd, h2]
  · simp [h]
def qW (E : qE) (ad : Nat → Nat) (S A : qA2) (b : qB) : va_W := (List.range 214).map (fun i => (ad i, qmem E ad S A b i))
theorem qW_at (E : qE) (ad : Nat → Nat) (S A : qA2) (b : qB) {i : Nat} (h : i < 214) : (qW E ad S A b)[i]? = some (ad i, qmem E ad S A b i) := by simp [qW, h]
theorem qW_lt (E : qE) (ad : Nat → Nat) (S A : qA2) (b : qB) {i : Nat} {q : Nat × va_E} (h : (qW E ad S A b)[i]? = some q) : i < 214 := by
  have := (List.getElem?_eq_some_iff.mp h).1
  simpa [qW] using this
theorem qk_lt {i c : Nat} (h : qk i = c) (hc : c < 99) : i < 214 := by
  rcases Nat.lt_or_ge i 214 with h1 | h1
  · exact h1
  · have : qk i = 99 := by
      have hl : qkL.length = 214 := by decide +kernel
      show (qkL[i]?).getD 99 = 99
      rw [List.getElem?_eq_none (by omega)]
      rfl
    omega
theorem qmem_cong (E : qE) (ad : Nat → Nat) {S A S' A' : qA2} (b : qB) {i : Nat} (h1 : S' i = S i) (h2 : A' i = A i) : qmem E ad S' A' b i = qmem E ad S A b i := by
  unfold qmem qo0 qo1 qo2 qo3 qo4 qo5 qo6 qo7 qo8 qo9 qo11
  rw [h1, h2]
theorem qW_set (E : qE) (ad : Nat → Nat) {S A S' A' : qA2} (b : qB) {o : Nat} {x : va_E} (hx : qmem E ad S' A' b o = x) (h1 : ∀ i, i ≠ o → S' i = S i) (h2 : ∀ i, i ≠ o → A' i = A i) : (qW E ad S A b).set o (ad o, x) = qW E ad S' A' b := by
  apply List.ext_getElem?
  intro i
  by_cases hi : i < 214
  · rw [qW_at E ad S' A' b hi]
    by_cases ho : o = i
    · subst ho
      rw [List.getElem?_set_self (by simpa [qW] using hi), hx]
    · rw [List.getElem?_set_ne ho, qW_at E ad S A b hi, qmem_cong E ad b (h1 i (fun h => ho h.symm)) (h2 i (fun h => ho h.symm))]
  · rw [List.getElem?_eq_none (by simpa [qW] using hi), List.getElem?_eq_none (by simpa [qW] using hi)]
def qAr (ad : Nat → Nat) (sz : Nat) : Nat → Prop := fun q => (∃ i, i < 214 ∧ ad i = q) ∨ sz ≤ q
def qM (E : qE) (ad : Nat → Nat) (S A : qA2) (b : qB) (Ar : Nat → Prop) (s : State) (H : Heap) (locs : List Loc) : Prop := va_P E.1 vwCl (qW E ad S A b) H ∧ va_D Ar (qW E ad S A b) ∧ va_S Ar s.heap H locs
def qPre (E : qE) (ad : Nat → Nat) (S A : qA2) (b : qB) (sz : Nat) (U : State) : Prop := U.heap.size = sz ∧ va_P E.1 vwCl (qW E ad S A b) U.heap ∧ va_K E.1 vwCl (qT E) U ∧ va_D (fun _ => True) (qW E ad S A b)
def qPost (E : qE) (ad : Nat → Nat) (sz : Nat) (u : qA2 × qA2 × qB) (t : State) : Prop := va_P E.1 vwCl (qW E ad u.1 u.2.1 u.2.2) t.heap ∧ va_K E.1 vwCl (qT E) t ∧ va_D (qAr ad sz) (qW E ad u.1 u.2.1 u.2.2)
abbrev qQi (E : qE) (ad : Nat → Nat) (sz : Nat) (post : Int32 → qA2 → qA2 → qB → Prop) : Array Value → State → Outcome → State → Prop := va_Qi (S := qA2 × qA2 × qB) (fun r u => post r u.1 u.2.1 u.2.2) (qPost E ad sz) (qAr ad sz)
abbrev qQv (E : qE) (ad : Nat → Nat) (sz : Nat) (post : qA2 → qA2 → qB → Prop) : Array Value → State → Outcome → State → Prop := va_Qv (S := qA2 × qA2 × qB) (fun u => post u.1 u.2.1 u.2.2) (qPost E ad sz) (qAr ad sz)
def MI (E : qE) (ad : Nat → Nat) (l : Launch) (y : MethodName) (ws : List Cond) (rm : Room) (av : List Value) (S A : qA2) (b : qB) (post : Int32 → qA2 → qA2 → qB → Prop) : Prop := ∀ sz : Nat, Met l y ws rm (va_Pc av (qPre E ad S A b sz)) (qQi E ad sz post) 0 0 (qAr ad sz)
def MV (E : qE) (ad : Nat → Nat) (l : Launch) (y : MethodName) (ws : List Cond) (rm : Room) (av : List Value) (S A : qA2) (b : qB) (post : qA2 → qA2 → qB → Prop) : Prop := ∀ sz : Nat, Met l y ws rm (va_Pc av (qPre E ad S A b sz)) (qQv E ad sz post) 0 0 (qAr ad sz)
theorem qD_self {E : qE} {ad : Nat → Nat} {S A : qA2} {b : qB} {sz : Nat} (h : va_D (fun _ => True) (qW E ad S A b)) : va_D (qAr ad sz) (qW E ad S A b) := by
  refine ⟨h.1, fun k q hk => Or.inl ⟨k, qW_lt E ad S A b hk, ?_⟩⟩
  rw [qW_at E ad S A b (qW_lt E ad S A b hk)] at hk
  cases hk
  rfl
theorem qPre_blind {E : qE} {ad : Nat → Nat} {S A : qA2} {b : qB} {sz : Nat} {av : List Value} : FrameBlind (va_Pc av (qPre E ad S A b sz)) := by
  intro a U g mk q
  obtain ⟨q0, q1, qP, qK, qD⟩ := q
  exact ⟨q0, q1, qP, va_K.moved (u := U) (U := U.calling g mk a) (Vm.Alike.refl U.vm) qK, qD⟩
/-- what holds in a method's body: the machine, the code, its room for locals, its class, its words, the tables, no lock -/
def qC (E : qE) (p : Program) (s : State) (m : MethodId) (args : Array Value) (meth : Method) (c : Code) (cc : ByteArray) (nL : Nat) (Ts : List Cond) (own : String) (ret : Option FieldType) : Prop :=
  p.tables.exec = Jvm.exec ∧ c.code = cc ∧ c.maxLocals = nL ∧ s.vm.findClass own = some m.cls ∧ (∀ w ∈ Ts, w.before args s = true) ∧ va_K E.1 vwCl (qT E) s ∧ meth.locks = false ∧ meth.sig.returnType = ret
theorem MI.of {E : qE} {ad : Nat → Nat} {l : Launch} {y : MethodName} {ws ws' : List Cond} {rm : Room} {av : List Value} {S A : qA2} {b : qB} {post : Int32 → qA2 → qA2 → qB → Prop} {cc : ByteArray} {maxL : Nat} {ret : Option FieldType} (own : String) (hown : y.cls = own) (hy : plainName y.cls = true) (hw : ws = Cond.code y cc maxL ret :: ws')
    (body : ∀ (p : Program) (e : Env) (s : State) (m : MethodId) (below : List Frame) (meth : Method) (c : Code), qC E p s m av.toArray meth c cc maxL ws own ret → qM E ad S A b (qAr ad s.heap.size) s s.heap [] → W p l e (headSpec ws rm).room s m av.toArray below meth c s.heap [] 0 0 (MQ below (qQi E ad s.heap.size post) av.toArray s 0 0 (qAr ad s.heap.size)) (entryFrame m av.toArray maxL)) : MI E ad l y ws rm av S A b post := by
  intro sz
  refine Met.ofW (cc := cc) (maxL := maxL) (ret := ret) hy hw ?_
  intro p e s m args below meth c s₁ B hml hv
  obtain ⟨rfl, hsz, hP, hK, hD⟩ := hv
  subst hsz
  subst hown
  exact body p e s m below meth c ⟨B.exec, B.bytes, hml, findClass_of_methodNamed B.named, atoms_spec (ws := ws) B.pre, hK, B.notSynchronized, B.returns⟩ ⟨hP, qD_self hD, va_S.rf⟩
theorem MV.of {E : qE} {ad : Nat → Nat} {l : Launch} {y : MethodName} {ws ws' : List Cond} {rm : Room} {av : List Value} {S A : qA2} {b : qB} {post : qA2 → qA2 → qB → Prop} {cc : ByteArray} {maxL : Nat} {ret : Option FieldType} (own : String) (hown : y.cls = own) (hy : plainName y.cls = true) (hw : ws = Cond.code y cc maxL ret :: ws')
    (body : ∀ (p : Program) (e : Env) (s : State) (m : MethodId) (below : List Frame) (meth : Method) (c : Code), qC E p s m av.toArray meth c cc maxL ws own ret → qM E ad S A b (qAr ad s.heap.size) s s.heap [] → W p l e (headSpec ws rm).room s m av.toArray below meth c s.heap [] 0 0 (MQ below (qQv E ad s.heap.size post) av.toArray s 0 0 (qAr ad s.heap.size)) (entryFrame m av.toArray maxL)) : MV E ad l y ws rm av S A b post := by
  intro sz
  refine Met.ofW (cc := cc) (maxL := maxL) (ret := ret) hy hw ?_
  intro p e s m args below meth c s₁ B hml hv
  obtain ⟨rfl, hsz, hP, hK, hD⟩ := hv
  subst hsz
  subst hown
  exact body p e s m below meth c ⟨B.exec, B.bytes, hml, findClass_of_methodNamed B.named, atoms_spec (ws := ws) B.pre, hK, B.notSynchronized, B.returns⟩ ⟨hP, qD_self hD, va_S.rf⟩
section QB
variable {p : Program} {l : Launch} {e : Env} {R : Room} {s : State} {m : MethodId} {args : Array Value} {below : List Frame} {meth : Method} {c : Code} {H : Heap} {locs : List Loc} {cells slots : Nat} {Q : State → Prop}
variable {pc : Nat} {ls : Array Slot} {rest : List Value} {cc : ByteArray} {nL : Nat} {Ts : List Cond} {own : String} {rt : Option FieldType}
variable {E : qE} {ad : Nat → Nat} {S A : qA2} {b : qB} {Ar : Nat → Prop} {sz : Nat}
theorem lv_as {x y : Int32} (h : x = y) (kk : W p l e R s m args below meth c H locs cells slots Q (F0 m pc ls (.int y :: rest))) : W p l e R s m args below meth c H locs cells slots Q (F0 m pc ls (.int x :: rest)) := by
  subst h
  exact kk
theorem q_get (C : qC E p s m args meth c cc nL Ts own rt) (hM : qM E ad S A b Ar s H locs) {o ci N index k : Nat} {ref Cn : String} {T : u_T} {fs : List Value} {v : Value} (ho : qmem E ad S A b o = .inr (ci, fs)) (hoN : o < 214) (hc : vwCl[ci]? = some (Cn, T, N)) (hin : ∀ w ∈ u_ws Cn T N, w ∈ Ts) (hk : k < N) (hlink : (Cond.fieldLink own index ref (T k).2.1 (T k).2.2.1).before args s = true) (hsame : (T k).1 = ref) (hv : fs[k]? = some v) (hdg : decode cc pc = .ok (.getfield index, 3))
    (kk : W p l e R s m args below meth c H locs cells slots Q (F0 m (pc + 3) ls (v :: rest))) : W p l e R s m args below meth c H locs cells slots Q (F0 m pc ls (.ref (ad o) :: rest)) :=
  va_get (D := E.1) (cl := vwCl) (ws := qW E ad S A b) C.1 C.2.1 C.2.2.2.2.1 hin C.2.2.2.1 C.2.2.2.2.2.1 hM.1 o ((qW_at E ad S A b hoN).trans (by rw [ho])) hc k hk hlink (fun x h => by rw [← hsame]; exact h) hv hdg kk
theorem q_put (C : qC E p s m args meth c cc nL Ts own rt) (hM : qM E ad S A b Ar s H locs) {o ci N index k : Nat} {ref Cn : String} {T : u_T} {fs : List Value} {v : Int32} {ty : FieldType} (ho : qmem E ad S A b o = .inr (ci, fs)) (hoN : o < 214) (hc : vwCl[ci]? = some (Cn, T, N)) (hin : ∀ w ∈ u_ws Cn T N, w ∈ Ts) (ty0 : Nat → FieldType) (hty : ∀ k, k < N → parseFieldDescriptor (T k).2.2.1 = some (ty0 k)) (hnm : ∀ a, a < N → ∀ b, b < N → a ≠ b → (T a).2.1 ≠ (T b).2.1) (hk : k < N) (hlink : (Cond.fieldLink own index ref (T k).2.1 (T k).2.2.1).before args s = true) (hsame : (T k).1 = ref) (hfin : (T k).2.2.2 = false) (hd : parseFieldDescriptor (T k).2.2.1 = some ty) (hn : narrow ty (.int v) = .int v) (hfit : fits ty (.int v) = true) (hl : k < fs.length) (hset : qmem E ad (q2 S o k v) A b o = .inr (ci, fs.set k (.int v))) (hdg : decode cc pc = .ok (.putfield index, 3))
    (kk : ∀ (H1 : Heap) (locs1 : List Loc), qM E ad (q2 S o k v) A b Ar s H1 locs1 → W p l e R s m args below meth c H1 locs1 cells slots Q (F0 m (pc + 3) ls rest)) : W p l e R s m args below meth c H locs cells slots Q (F0 m pc ls (.int v :: .ref (ad o) :: rest)) :=
  va_put (D := E.1) (cl := vwCl) (ws := qW E ad S A b) C.1 C.2.1 C.2.2.2.2.1 hin ty0 hty hnm C.2.2.2.1 C.2.2.2.2.2.1 hM.1 hM.2.1 hM.2.2 o ((qW_at E ad S A b hoN).trans (by rw [ho])) hc k hk hlink (fun x h => by rw [← hsame]; exact h) hfin hd hn hfit hl hdg (fun H1 locs1 h1 h2 h3 => by
    have he := qW_set E ad (S := S) (A := A) (S' := q2 S o k v) (A' := A) b hset (fun i hi => q2_or S v hi) (fun i hi => rfl)
    rw [he] at h1 h2
    exact kk H1 locs1 ⟨h1, h2, h3⟩)
theorem q_iald (C : qC E p s m args meth c cc nL Ts own rt) (hM : qM E ad S A b Ar s H locs) {o : Nat} (ho : qk o = 12) {i : Int32} (hin : vp_in i (ql o)) {v : Int32} (hv : A o i.toNatClampNeg = v) (hdg : decode cc pc = .ok (.iaload, 1))
    (kk : W p l e R s m args below meth c H locs cells slots Q (F0 m (pc + 1) ls (.int v :: rest))) : W p l e R s m args below meth c H locs cells slots Q (F0 m pc ls (.int i :: .ref (ad o) :: rest)) := by
  subst hv
  exact va_iald (D := E.1) (cl := vwCl) (tys := qT E) (ws := qW E ad S A b) C.1 C.2.1 C.2.2.2.2.2.1 hM.1 o 0 ((qW_at E ad S A b (qk_lt ho (by decide))).trans (by rw [qmem_12 E ad S A b ho])) rfl hin hdg kk
theorem q_iast (C : qC E p s m args meth c cc nL Ts own rt) (hM : qM E ad S A b Ar s H locs) {o : Nat} (ho : qk o = 12) {i x : Int32} (hin : vp_in i (ql o)) (hdg : decode cc pc = .ok (.iastore, 1))
    (kk : ∀ (H1 : Heap) (locs1 : List Loc), qM E ad S (q2 A o i.toNatClampNeg x) b Ar s H1 locs1 → W p l e R s m args below meth c H1 locs1 cells slots Q (F0 m (pc + 1) ls rest)) : W p l e R s m args below meth c H locs cells slots Q (F0 m pc ls (.int x :: .int i :: .ref (ad o) :: rest)) :=
  va_iast (D := E.1) (cl := vwCl) (tys := qT E) (ws := qW E ad S A b) C.1 C.2.1 C.2.2.2.2.2.1 hM.1 hM.2.1 hM.2.2 o 0 ((qW_at E ad S A b (qk_lt ho (by decide))).trans (by rw [qmem_12 E ad S A b ho])) rfl hin hdg (fun H1 locs1 h1 h2 h3 => by
    have he := qW_set E ad (S := S) (A := A) (S' := S) (A' := q2 A o i.toNatClampNeg x) b ((qmem_12 E ad S (q2 A o i.toNatClampNeg x) b ho).trans (by rw [q2_row])) (fun i hi => rfl) (fun i hi => q2_or A x hi)
    rw [he] at h1 h2
    exact kk H1 locs1 ⟨h1, h2, h3⟩)
theorem q_zald (C : qC E p s m args meth c cc nL Ts own rt) (hM : qM E ad S A b Ar s H locs) {o : Nat} (ho : qk o = 13) {i : Int32} (hin : vp_in i (ql o)) {v : Int32} (hv : A o i.toNatClampNeg = v) (hdg : decode cc pc = .ok (.baload, 1))
    (kk : W p l e R s m args below meth c H locs cells slots Q (F0 m (pc + 1) ls (.int v :: rest))) : W p l e R s m args below meth c H locs cells slots Q (F0 m pc ls (.int i :: .ref (ad o) :: rest)) := by
  subst hv
  exact va_zald (D := E.1) (cl := vwCl) (tys := qT E) (ws := qW E ad S A b) C.1 C.2.1 C.2.2.2.2.2.1 hM.1 o 1 ((qW_at E ad S A b (qk_lt ho (by decide))).trans (by rw [qmem_13 E ad S A b ho])) rfl hin hdg kk
theorem q_iret (C : qC E p s m args meth c cc nL Ts own (some .int)) {post : Int32 → qA2 → qA2 → qB → Prop} {v : Int32} (hM : qM E ad S A b (qAr ad sz) s H locs) (hdg : decode cc pc = .ok (.ireturn, 1)) (hq : post v S A b) : W p l e R s m args below meth c H locs cells slots (MQ below (qQi E ad sz post) args s cells slots (qAr ad sz)) (F0 m pc ls [.int v]) :=
  W.iret C.1 C.2.1 C.2.2.2.2.2.2.2 (fun t ht hW => ⟨⟨v, (S, A, b), rfl, hq, by rw [ht]; exact hM.1, va_K.moved hW.alike C.2.2.2.2.2.1, hM.2.1⟩, hM.2.2.F ht⟩) hM.2.2.2.2 hdg C.2.2.2.2.2.2.1
theorem q_zret (C : qC E p s m args meth c cc nL Ts own (some .boolean)) {post : Int32 → qA2 → qA2 → qB → Prop} {v : Int32} (hM : qM E ad S A b (qAr ad sz) s H locs) (hdg : decode cc pc = .ok (.ireturn, 1)) (hn : narrow .boolean (.int v) = .int v) (hq : post v S A b) : W p l e R s m args below meth c H locs cells slots (MQ below (qQi E ad sz post) args s cells slots (qAr ad sz)) (F0 m pc ls [.int v]) :=
  W.zret C.1 C.2.1 C.2.2.2.2.2.2.2 hn (fun t ht hW => ⟨⟨v, (S, A, b), rfl, hq, by rw [ht]; exact hM.1, va_K.moved hW.alike C.2.2.2.2.2.1, hM.2.1⟩, hM.2.2.F ht⟩) hM.2.2.2.2 hdg C.2.2.2.2.2.2.1
theorem q_vret (C : qC E p s m args meth c cc nL Ts own none) {post : qA2 → qA2 → qB → Prop} (hM : qM E ad S A b (qAr ad sz) s H locs) (hdg : decode cc pc = .ok (.return_, 1)) (hq : post S A b) : W p l e R s m args below meth c H locs cells slots (MQ below (qQv E ad sz post) args s cells slots (qAr ad sz)) (F0 m pc ls []) :=
  W.vret C.1 C.2.1 C.2.2.2.2.2.2.2 (fun t ht hW => ⟨⟨(S, A, b), rfl, hq, by rw [ht]; exact hM.1, va_K.moved hW.alike C.2.2.2.2.2.1, hM.2.1⟩, hM.2.2.F ht⟩) hM.2.2.2.2 hdg C.2.2.2.2.2.2.1
theorem q_sub (hM : qM E ad S A b Ar s H locs) (hA : ∀ q, s.heap.size ≤ q → Ar q) : ∀ q, qAr ad H.size q → Ar q := by
  intro q h
  rcases h with ⟨i, hi, rfl⟩ | h
  · exact hM.2.1.2 i _ (qW_at E ad S A b hi)
  · exact hA q (Nat.le_trans hM.2.2.1 h)
theorem q_back {S' A' : qA2} {b' : qB} {t : State} {H1 : Heap} {locs1 : List Loc} (hsub : ∀ q, qAr ad sz q → Ar q) (hB : qPost E ad sz (S', A', b') t) (ht : t.heap = H1) (hS : va_S Ar s.heap H1 locs1) : qM E ad S' A' b' Ar s H1 locs1 := by
  obtain ⟨hP1, hK1, hD1⟩ := hB
  rw [ht] at hP1
  exact ⟨hP1, ⟨hD1.1, fun k q hk => hsub _ (hD1.2 k q hk)⟩, hS⟩
theorem q_pre (C : qC E p s m args meth c cc nL Ts own rt) (hM : qM E ad S A b Ar s H locs) {av : List Value} : ∀ U : State, U.heap = H → s.WarmedH U.vm → va_Pc av (qPre E ad S A b H.size) av.toArray U :=
  fun U hU hW => ⟨rfl, by rw [hU], by rw [hU]; exact hM.1, va_K.moved hW.alike C.2.2.2.2.2.1, ⟨hM.2.1.1, fun _ _ _ => trivial⟩⟩
theorem q_callVI (C : qC E p s m args meth c cc nL Ts own rt) (hM : qM E ad S A b Ar s H locs) (hA : ∀ q, s.heap.size ≤ q → Ar q) {o ci N index maxL n : Nat} {Cn : String} {T : u_T} {fs : List Value} {y : MethodName} {bytes : ByteArray} {ret : Option FieldType} {ws ws' : List Cond} {rm : Room} {As st0 : List Value} {post : Int32 → qA2 → qA2 → qB → Prop} (K : MI E ad l y ws rm (.ref (ad o) :: As) S A b post) (ho : qmem E ad S A b o = .inr (ci, fs)) (hoN : o < 214) (hc : vwCl[ci]? = some (Cn, T, N)) (hG : GoodIn Ts (wsV own index Cn y ws)) (hw : ws = Cond.code y bytes maxL ret :: ws') (hrc : rm.cells = 0) (hrs : rm.slots = 0) (hd : y.cls = Cn ∧ y.cls ≠ "java/lang/invoke/MethodHandle" ∧ y.cls ≠ "java/lang/invoke/VarHandle" ∧ (parseMethodDescriptor y.desc).map (fun d => d.parameters.length) = some n) (hR : rm.frames + 1 ≤ R.frames ∧ 8 + (maxL + 11) + rm.locals ≤ R.locals) (hn : As.length = n) (hls : ls.size = nL) (hst : st0 = As.reverse ++ .ref (ad o) :: rest) (hroom : (rest.map fun v => v.category).sum ≤ 8) (hf : cells + 0 ≤ R.cells ∧ slots + 0 ≤ R.slots) (hdg : decode cc pc = .ok (.invokevirtual index, 3))
    (kk : ∀ (r : Int32) (S' A' : qA2) (b' : qB) (H1 : Heap) (locs1 : List Loc), post r S' A' b' → qM E ad S' A' b' Ar s H1 locs1 → W p l e R s m args below meth c H1 locs1 cells slots Q (F0 m (pc + 3) ls (.int r :: rest))) : W p l e R s m args below meth c H locs cells slots Q (F0 m pc ls st0) := by
  subst hst
  have hsub := q_sub hM hA
  refine va_calli (va_runV (As := As) (rest := rest) ⟨C.1, C.2.1, C.2.2.1, C.2.2.2.1, C.2.2.2.2.1⟩ (K H.size) (cwV n C.2.2.2.2.1 hG hw hrc hrs hd hR) ⟨qPre_blind, va_recv C.2.2.2.2.2.1 hM.1 hc ((qW_at E ad S A b hoN).trans (by rw [ho])), q_pre C hM⟩ rfl hn hls rfl (lv_room hroom) hdg hf) hM.2.2 (fun q _ h => hsub q h) hsub (fun r u t H1 locs1 ht hvm hw hB hz1 hk1 hS => ?_)
  exact kk r u.1 u.2.1 u.2.2 H1 locs1 hw (q_back hsub hB ht hS)
theorem q_callVV (C : qC E p s m args meth c cc nL Ts own rt) (hM : qM E ad S A b Ar s H locs) (hA : ∀ q, s.heap.size ≤ q → Ar q) {o ci N index maxL n : Nat} {Cn : String} {T : u_T} {fs : List Value} {y : MethodName} {bytes : ByteArray} {ret : Option FieldType} {ws ws' : List Cond} {rm : Room} {As st0 : List Value} {post : qA2 → qA2 → qB → Prop} (K : MV E ad l y ws rm (.ref (ad o) :: As) S A b post) (ho : qmem E ad S A b o = .inr (ci, fs)) (hoN : o < 214) (hc : vwCl[ci]? = some (Cn, T, N)) (hG : GoodIn Ts (wsV own index Cn y ws)) (hw : ws = Cond.code y bytes maxL ret :: ws') (hrc : rm.cells = 0) (hrs : rm.slots = 0) (hd : y.cls = Cn ∧ y.cls ≠ "java/lang/invoke/MethodHandle" ∧ y.cls ≠ "java/lang/invoke/VarHandle" ∧ (parseMethodDescriptor y.desc).map (fun d => d.parameters.length) = some n) (hR : rm.frames + 1 ≤ R.frames ∧ 8 + (maxL + 11) + rm.locals ≤ R.locals) (hn : As.length = n) (hls : ls.size = nL) (hst : st0 = As.reverse ++ .ref (ad o) :: rest) (hroom : (rest.map fun v => v.category).sum ≤ 8) (hf : cells + 0 ≤ R.cells ∧ slots + 0 ≤ R.slots) (hdg : decode cc pc = .ok (.invokevirtual index, 3))
    (kk : ∀ (S' A' : qA2) (b' : qB) (H1 : Heap) (locs1 : List Loc), post S' A' b' → qM E ad S' A' b' Ar s H1 locs1 → W p l e R s m args below meth c H1 locs1 cells slots Q (F0 m (pc + 3) ls rest)) : W p l e R s m args below meth c H locs cells slots Q (F0 m pc ls st0) := by
  subst hst
  have hsub := q_sub hM hA
  refine va_callv (va_runV (As := As) (rest := rest) ⟨C.1, C.2.1, C.2.2.1, C.2.2.2.1, C.2.2.2.2.1⟩ (K H.size) (cwV n C.2.2.2.2.1 hG hw hrc hrs hd hR) ⟨qPre_blind, va_recv C.2.2.2.2.2.1 hM.1 hc ((qW_at E ad S A b hoN).trans (by rw [ho])), q_pre C hM⟩ rfl hn hls rfl (lv_room hroom) hdg hf) hM.2.2 (fun q _ h => hsub q h) hsub (fun u t H1 locs1 ht hvm hw hB hz1 hk1 hS => ?_)
  exact kk u.1 u.2.1 u.2.2 H1 locs1 hw (q_back hsub hB ht hS)
theorem q_callSI (C : qC E p s m args meth c cc nL Ts own rt) (hM : qM E ad S A b Ar s H locs) (hA : ∀ q, s.heap.size ≤ q → Ar q) {index maxL n : Nat} {y : MethodName} {bytes : ByteArray} {ret : Option FieldType} {ws ws' : List Cond} {rm : Room} {As st0 : List Value} {post : Int32 → qA2 → qA2 → qB → Prop} (K : MI E ad l y ws rm As S A b post) (hG : GoodIn Ts (va_wsS own index y ws)) (hw : ws = Cond.code y bytes maxL ret :: ws') (hrc : rm.cells = 0) (hrs : rm.slots = 0) (hd : y.cls ≠ "java/lang/invoke/MethodHandle" ∧ y.cls ≠ "java/lang/invoke/VarHandle" ∧ (parseMethodDescriptor y.desc).map (fun d => d.parameters.length) = some n) (hR : rm.frames + 1 ≤ R.frames ∧ 8 + (maxL + 11) + rm.locals ≤ R.locals) (hn : As.length = n) (hls : ls.size = nL) (hst : st0 = As.reverse ++ rest) (hroom : (rest.map fun v => v.category).sum ≤ 8) (hf : cells + 0 ≤ R.cells ∧ slots + 0 ≤ R.slots) (hdg : decode cc pc = .ok (.invokestatic index, 3))
    (kk : ∀ (r : Int32) (S' A' : qA2) (b' : qB) (H1 : Heap) (locs1 : List Loc), post r S' A' b' → qM E ad S' A' b' Ar s H1 locs1 → W p l e R s m args below meth c H1 locs1 cells slots Q (F0 m (pc + 3) ls (.int r :: rest))) : W p l e R s m args below meth c H locs cells slots Q (F0 m pc ls st0) := by
  subst hst
  have hsub := q_sub hM hA
  refine va_calli (va_runS (As := As) (rest := rest) ⟨C.1, C.2.1, C.2.2.1, C.2.2.2.1, C.2.2.2.2.1⟩ (K H.size) (va_cwS n C.2.2.2.2.1 hG hw hrc hrs hd hR) ⟨qPre_blind, q_pre C hM⟩ rfl hn hls rfl (lv_room hroom) hdg hf) hM.2.2 (fun q _ h => hsub q h) hsub (fun r u t H1 locs1 ht hvm hw hB hz1 hk1 hS => ?_)
  exact kk r u.1 u.2.1 u.2.2 H1 locs1 hw (q_back hsub hB ht hS)
theorem q_zast (C : qC E p s m args meth c cc nL Ts own rt) (hM : qM E ad S A b Ar s H locs) {o : Nat} (ho : qk o = 13) {i x : Int32} (hin : vp_in i (ql o)) (hdg : decode cc pc = .ok (.bastore, 1))
    (kk : ∀ (H1 : Heap) (locs1 : List Loc), qM E ad S (q2 A o i.toNatClampNeg (vp_nar .boolean x)) b Ar s H1 locs1 → W p l e R s m args below meth c H1 locs1 cells slots Q (F0 m (pc + 1) ls rest)) : W p l e R s m args below meth c H locs cells slots Q (F0 m pc ls (.int x :: .int i :: .ref (ad o) :: rest)) :=
  va_zast (D := E.1) (cl := vwCl) (tys := qT E) (ws := qW E ad S A b) C.1 C.2.1 C.2.2.2.2.2.1 hM.1 hM.2.1 hM.2.2 o 1 ((qW_at E ad S A b (qk_lt ho (by decide))).trans (by rw [qmem_13 E ad S A b ho])) rfl hin hdg (fun H1 locs1 h1 h2 h3 => by
    have he := qW_set E ad (S := S) (A := A) (S' := S) (A' := q2 A o i.toNatClampNeg (vp_nar .boolean x)) b ((qmem_13 E ad S (q2 A o i.toNatClampNeg (vp_nar .boolean x)) b ho).trans (by rw [q2_row])) (fun i hi => rfl) (fun i hi => q2_or A (vp_nar .boolean x) hi)
    rw [he] at h1 h2
    exact kk H1 locs1 ⟨h1, h2, h3⟩)
theorem q_aald14 (C : qC E p s m args meth c cc nL Ts own rt) (hM : qM E ad S A b Ar s H locs) {o : Nat} (ho : qk o = 14) {i : Int32} (hin : vp_in i (ql o)) {k : Nat} (hk : i.toNatClampNeg = k) (hdg : decode cc pc = .ok (.aaload, 1))
    (kk : W p l e R s m args below meth c H locs cells slots Q (F0 m (pc + 1) ls (.ref (ad (139 + 7 * k)) :: rest))) : W p l e R s m args below meth c H locs cells slots Q (F0 m pc ls (.int i :: .ref (ad o) :: rest)) := by
  subst hk
  exact va_aldq (f := fun k => some (ad (139 + 7 * k))) (D := E.1) (cl := vwCl) (tys := qT E) (ws := qW E ad S A b) C.1 C.2.1 C.2.2.2.2.2.1 hM.1 o 2 ((qW_at E ad S A b (qk_lt ho (by decide))).trans (by rw [qmem_14 E ad S A b ho])) rfl hin hdg kk
theorem q_aald15 (C : qC E p s m args meth c cc nL Ts own rt) (hM : qM E ad S A b Ar s H locs) {o : Nat} (ho : qk o = 15) {i : Int32} (hin : vp_in i (ql o)) {k : Nat} (hk : i.toNatClampNeg = k) (hdg : decode cc pc = .ok (.aaload, 1))
    (kk : W p l e R s m args below meth c H locs cells slots Q (F0 m (pc + 1) ls (.ref (ad (17 + 6 * k)) :: rest))) : W p l e R s m args below meth c H locs cells slots Q (F0 m pc ls (.int i :: .ref (ad o) :: rest)) := by
  subst hk
  exact va_aldq (f := fun k => some (ad (17 + 6 * k))) (D := E.1) (cl := vwCl) (tys := qT E) (ws := qW E ad S A b) C.1 C.2.1 C.2.2.2.2.2.1 hM.1 o 3 ((qW_at E ad S A b (qk_lt ho (by decide))).trans (by rw [qmem_15 E ad S A b ho])) rfl hin hdg kk
theorem qW_setb (E : qE) (ad : Nat → Nat) {S A : qA2} (b b' : qB) {x : va_E} (hx : qmem E ad S A b' 0 = x) : (qW E ad S A b).set 0 (ad 0, x) = qW E ad S A b' := by
  apply List.ext_getElem?
  intro i
  by_cases hi : i < 214
  · rw [qW_at E ad S A b' hi]
    by_cases ho : 0 = i
    · subst ho
      rw [List.getElem?_set_self (by simp [qW]), hx]
    · rw [List.getElem?_set_ne ho, qW_at E ad S A b hi]
      have hk : ∀ i, i < 214 → ¬ 0 = i → ¬ qk i = 10 := by decide +kernel
      have h10 := hk i hi ho
      have he : qmem E ad S A b i = qmem E ad S A b' i := by
        unfold qmem
        split <;> first | rfl | (rename_i h; exact absurd h h10)
      rw [he]
  · rw [List.getElem?_eq_none (by simpa [qW] using hi), List.getElem?_eq_none (by simpa [qW] using hi)]
theorem q_putp (C : qC E p s m args meth c cc nL Ts own rt) (hM : qM E ad S A b Ar s H locs) {index k v : Nat} {b' : qB} (hin : ∀ w ∈ u_ws RX10 TX10 11, w ∈ Ts) (hk : k < 11) (hlink : (Cond.fieldLink own index RX10 (TX10 k).2.1 (TX10 k).2.2.1).before args s = true) (hsame : (TX10 k).1 = RX10) (hfin : (TX10 k).2.2.2 = false) {ty : FieldType} (hd : parseFieldDescriptor (TX10 k).2.2.1 = some ty) (hn : narrow ty (.ref (ad v)) = .ref (ad v)) (hfit : fits ty (.ref (ad v)) = true) (hset : (qo10 ad b).set k (.ref (ad v)) = qo10 ad b') (hdg : decode cc pc = .ok (.putfield index, 3))
    (kk : ∀ (H1 : Heap) (locs1 : List Loc), qM E ad S A b' Ar s H1 locs1 → W p l e R s m args below meth c H1 locs1 cells slots Q (F0 m (pc + 3) ls rest)) : W p l e R s m args below meth c H locs cells slots Q (F0 m pc ls (.ref (ad v) :: .ref (ad 0) :: rest)) :=
  va_put (D := E.1) (cl := vwCl) (ci := 10) (fs := qo10 ad b) (ws := qW E ad S A b) C.1 C.2.1 C.2.2.2.2.1 hin tyX10 tyX10_ok nmX10 C.2.2.2.1 C.2.2.2.2.2.1 hM.1 hM.2.1 hM.2.2 0 ((qW_at E ad S A b (by decide)).trans (by rw [qmem_10 E ad S A b (by decide +kernel)])) rfl k hk hlink (fun x h => by rw [← hsame]; exact h) hfin hd hn hfit (by have : (qo10 ad b).length = 11 := rfl; omega) hdg (fun H1 locs1 h1 h2 h3 => by
    have he := qW_setb E ad (S := S) (A := A) b b' (x := .inr (10, (qo10 ad b).set k (.ref (ad v)))) (by rw [qmem_10 E ad S A b' (by decide +kernel), hset])
    rw [he] at h1 h2
    exact kk H1 locs1 ⟨h1, h2, h3⟩)
theorem q_copy (C : qC E p s m args meth c cc nL Ts own rt) (hM : qM E ad S A b Ar s H locs) {o1 o2 : Nat} (h1 : qk o1 = 12) (h2 : qk o2 = 12) {index : Nat} (hls : ls.size = nL) (hlink : (Cond.methodLink own index arraycopyName).before args s = true) (hnat : (Cond.native arraycopyName).before args s = true) (hstat : (Cond.static arraycopyName).before args s = true) (hini : (Cond.initialized "java/lang/System").before args s = true) {sp dp n : Int32} (h3 : ¬ sp < 0) (h4 : ¬ dp < 0) (h5 : ¬ n < 0) (h6 : sp.toNatClampNeg + n.toNatClampNeg ≤ ql o1) (h7 : dp.toNatClampNeg + n.toNatClampNeg ≤ ql o2) (hframes : 1 ≤ R.frames) (hlocals : (rest.map fun v => v.category).sum + (nativeFrameWords "java/lang/System" "arraycopy" 5 + 11) ≤ R.locals) (hdg : decode cc pc = .ok (.invokestatic index, 3))
    (kk : ∀ (H1 : Heap) (locs1 : List Loc), qM E ad S (qr A o2 (va_cpy (A o1) (A o2) sp.toNatClampNeg dp.toNatClampNeg n.toNatClampNeg)) b Ar s H1 locs1 → W p l e R s m args below meth c H1 locs1 cells slots Q (F0 m (pc + 3) ls rest)) : W p l e R s m args below meth c H locs cells slots Q (F0 m pc ls (.int n :: .int dp :: .ref (ad o2) :: .int sp :: .ref (ad o1) :: rest)) :=
  va_copyi (D := E.1) (cl := vwCl) (tys := qT E) (ws := qW E ad S A b) C.1 C.2.1 (C.2.2.1.trans hls.symm) C.2.2.2.1 hlink hnat hstat hini C.2.2.2.2.2.1 hM.1 hM.2.1 hM.2.2 o1 o2 0 0 (ty := .int) ((qW_at E ad S A b (qk_lt h1 (by decide))).trans (by rw [qmem_12 E ad S A b h1])) ((qW_at E ad S A b (qk_lt h2 (by decide))).trans (by rw [qmem_12 E ad S A b h2])) rfl rfl rfl h3 h4 h5 h6 h7 (fun i hi => rfl) hframes hlocals hdg (fun H1 locs1 g1 g2 g3 => by
    have he := qW_set E ad (S := S) (A := A) (S' := S) (A' := qr A o2 (va_cpy (A o1) (A o2) sp.toNatClampNeg dp.toNatClampNeg n.toNatClampNeg)) b ((qmem_12 E ad S (qr A o2 (va_cpy (A o1) (A o2) sp.toNatClampNeg dp.toNatClampNeg n.toNatClampNeg)) b h2).trans (by rw [qr_s])) (fun i hi => rfl) (fun i hi => qr_o A _ hi)
    rw [he] at g1 g2
    exact kk H1 locs1 ⟨g1, g2, g3⟩)

end QB
