/-! the class's cells alone, ahead of the reference's -/
def gkL : List Nat := [10, 7, 12, 9, 12, 12, 12, 12, 12, 9, 12, 12, 12, 12, 12, 4, 15, 9, 12, 12, 12, 12, 12, 9, 12, 12, 12, 12, 12, 9, 12, 12, 12, 12, 12, 9, 12, 12, 12, 12, 12, 9, 12, 12, 12, 12, 12, 9, 12, 12, 12, 12, 12, 9, 12, 12, 12, 12, 12, 9, 12, 12, 12, 12, 12, 9, 12, 12, 12, 12, 12, 9, 12, 12, 12, 12, 12, 9, 12, 12, 12, 12, 12, 9, 12, 12, 12, 12, 12, 9, 12, 12, 12, 12, 12, 9, 12, 12, 12, 12, 12, 9, 12, 12, 12, 12, 12, 9, 12, 12, 12, 12, 12, 9, 12, 12, 12, 12, 12, 9, 12, 12, 12, 12, 12, 9, 12, 12, 12, 12, 12, 9, 12, 12, 12, 12, 12, 1, 14, 2, 9, 12, 12, 12, 12, 12, 2, 9, 12, 12, 12, 12, 12, 3, 12, 12, 9, 12, 12, 12, 12, 12, 8, 12, 6, 12, 12, 12, 12, 8, 12, 0, 12, 12, 5, 12, 12, 12, 12, 12, 12, 5, 12, 12, 12, 12, 12, 12]
def gk (i : Nat) : Nat := gkL.getD i 99
def gmem (E : qE) (ad : Nat → Nat) (S A : qA2) (b : qB) (i : Nat) : va_E := match gk i with
  | 0 => .inr (0, qo0 ad i S)
  | 1 => .inr (1, qo1 ad i S)
  | 2 => .inr (2, qo2 ad i S)
  | 3 => .inr (3, qo3 ad i S)
  | 4 => .inr (4, qo4 ad i S)
  | 5 => .inr (5, qo5 ad i S)
  | 6 => .inr (6, qo6 ad i S)
  | 7 => .inr (7, qo7 ad i S)
  | 8 => .inr (8, qo8 ad i S)
  | 9 => .inr (9, qo9 ad i S)
  | 10 => .inr (10, qo10 ad b)
  | 11 => .inr (11, qo11 ad i S)
  | 12 => .inl (E.2.1, ql i, .inl (A i))
  | 13 => .inl (E.2.2.1, ql i, .inl (A i))
  | 14 => .inl (E.2.2.2.1, ql i, .inr (.inr (.inr (.inr (fun k => some (ad (139 + 7 * k)))))))
  | _ => .inl (E.2.2.2.2, ql i, .inr (.inr (.inr (.inr (fun k => some (ad (17 + 6 * k)))))))
theorem gmem_5 (E : qE) (ad : Nat → Nat) (S A : qA2) (b : qB) {i : Nat} (h : gk i = 5) : gmem E ad S A b i = .inr (5, qo5 ad i S) := by unfold gmem; simp only [h]
theorem gmem_9 (E : qE) (ad : Nat → Nat) (S A : qA2) (b : qB) {i : Nat} (h : gk i = 9) : gmem E ad S A b i = .inr (9, qo9 ad i S) := by unfold gmem; simp only [h]
theorem gmem_12 (E : qE) (ad : Nat → Nat) (S A : qA2) (b : qB) {i : Nat} (h : gk i = 12) : gmem E ad S A b i = .inl (E.2.1, ql i, .inl (A i)) := by unfold gmem; simp only [h]
def gW (E : qE) (ad : Nat → Nat) (S A : qA2) (b : qB) : va_W := (List.range 188).map (fun i => (ad i, gmem E ad S A b i))
theorem gW_at (E : qE) (ad : Nat → Nat) (S A : qA2) (b : qB) {i : Nat} (h : i < 188) : (gW E ad S A b)[i]? = some (ad i, gmem E ad S A b i) := by simp [gW, h]
theorem gW_lt (E : qE) (ad : Nat → Nat) (S A : qA2) (b : qB) {i : Nat} {q : Nat × va_E} (h : (gW E ad S A b)[i]? = some q) : i < 188 := by
  have := (List.getElem?_eq_some_iff.mp h).1
  simpa [gW] using this
theorem gk_lt {i c : Nat} (h : gk i = c) (hc : c < 99) : i < 188 := by
  rcases Nat.lt_or_ge i 188 with h1 | h1
  · exact h1
  · have : gk i = 99 := by
      have hl : gkL.length = 188 := by decide +kernel
      show (gkL[i]?).getD 99 = 99
      rw [List.getElem?_eq_none (by omega)]
      rfl
    omega
theorem gmem_cong (E : qE) (ad : Nat → Nat) {S A S' A' : qA2} (b : qB) {i : Nat} (h1 : S' i = S i) (h2 : A' i = A i) : gmem E ad S' A' b i = gmem E ad S A b i := by
  unfold gmem qo0 qo1 qo2 qo3 qo4 qo5 qo6 qo7 qo8 qo9 qo11
  rw [h1, h2]
theorem gW_set (E : qE) (ad : Nat → Nat) {S A S' A' : qA2} (b : qB) {o : Nat} {x : va_E} (hx : gmem E ad S' A' b o = x) (h1 : ∀ i, i ≠ o → S' i = S i) (h2 : ∀ i, i ≠ o → A' i = A i) : (gW E ad S A b).set o (ad o, x) = gW E ad S' A' b := by
  apply List.ext_getElem?
  intro i
  by_cases hi : i < 188
  · rw [gW_at E ad S' A' b hi]
    by_cases ho : o = i
    · subst ho
      rw [List.getElem?_set_self (by simpa [gW] using hi), hx]
    · rw [List.getElem?_set_ne ho, gW_at E ad S A b hi, gmem_cong E ad b (h1 i (fun h => ho h.symm)) (h2 i (fun h => ho h.symm))]
  · rw [List.getElem?_eq_none (by simpa [gW] using hi), List.getElem?_eq_none (by simpa [gW] using hi)]
def gAr (ad : Nat → Nat) (sz : Nat) : Nat → Prop := fun q => (∃ i, i < 188 ∧ ad i = q) ∨ sz ≤ q
def gM (E : qE) (ad : Nat → Nat) (S A : qA2) (b : qB) (Ar : Nat → Prop) (s : State) (H : Heap) (locs : List Loc) : Prop := va_P E.1 vwCl (gW E ad S A b) H ∧ va_D Ar (gW E ad S A b) ∧ va_S Ar s.heap H locs
def gPre (E : qE) (ad : Nat → Nat) (S A : qA2) (b : qB) (sz : Nat) (U : State) : Prop := U.heap.size = sz ∧ va_P E.1 vwCl (gW E ad S A b) U.heap ∧ va_K E.1 vwCl (qT E) U ∧ va_D (fun _ => True) (gW E ad S A b)
def gPost (E : qE) (ad : Nat → Nat) (sz : Nat) (u : qA2 × qA2 × qB) (t : State) : Prop := va_P E.1 vwCl (gW E ad u.1 u.2.1 u.2.2) t.heap ∧ va_K E.1 vwCl (qT E) t ∧ va_D (gAr ad sz) (gW E ad u.1 u.2.1 u.2.2)
abbrev gQi (E : qE) (ad : Nat → Nat) (sz : Nat) (post : Int32 → qA2 → qA2 → qB → Prop) : Array Value → State → Outcome → State → Prop := va_Qi (S := qA2 × qA2 × qB) (fun r u => post r u.1 u.2.1 u.2.2) (gPost E ad sz) (gAr ad sz)
abbrev gQv (E : qE) (ad : Nat → Nat) (sz : Nat) (post : qA2 → qA2 → qB → Prop) : Array Value → State → Outcome → State → Prop := va_Qv (S := qA2 × qA2 × qB) (fun u => post u.1 u.2.1 u.2.2) (gPost E ad sz) (gAr ad sz)
def GI (E : qE) (ad : Nat → Nat) (l : Launch) (y : MethodName) (ws : List Cond) (rm : Room) (av : List Value) (S A : qA2) (b : qB) (post : Int32 → qA2 → qA2 → qB → Prop) : Prop := ∀ sz : Nat, Met l y ws rm (va_Pc av (gPre E ad S A b sz)) (gQi E ad sz post) 0 0 (gAr ad sz)
def GV (E : qE) (ad : Nat → Nat) (l : Launch) (y : MethodName) (ws : List Cond) (rm : Room) (av : List Value) (S A : qA2) (b : qB) (post : qA2 → qA2 → qB → Prop) : Prop := ∀ sz : Nat, Met l y ws rm (va_Pc av (gPre E ad S A b sz)) (gQv E ad sz post) 0 0 (gAr ad sz)
theorem gD_self {E : qE} {ad : Nat → Nat} {S A : qA2} {b : qB} {sz : Nat} (h : va_D (fun _ => True) (gW E ad S A b)) : va_D (gAr ad sz) (gW E ad S A b) := by
  refine ⟨h.1, fun k q hk => Or.inl ⟨k, gW_lt E ad S A b hk, ?_⟩⟩
  rw [gW_at E ad S A b (gW_lt E ad S A b hk)] at hk
  cases hk
  rfl
theorem gPre_blind {E : qE} {ad : Nat → Nat} {S A : qA2} {b : qB} {sz : Nat} {av : List Value} : FrameBlind (va_Pc av (gPre E ad S A b sz)) := by
  intro a U g mk q
  obtain ⟨q0, q1, qP, qK, qD⟩ := q
  exact ⟨q0, q1, qP, va_K.moved (u := U) (U := U.calling g mk a) (Vm.Alike.refl U.vm) qK, qD⟩
theorem GI.of {E : qE} {ad : Nat → Nat} {l : Launch} {y : MethodName} {ws ws' : List Cond} {rm : Room} {av : List Value} {S A : qA2} {b : qB} {post : Int32 → qA2 → qA2 → qB → Prop} {cc : ByteArray} {maxL : Nat} {ret : Option FieldType} (own : String) (hown : y.cls = own) (hy : plainName y.cls = true) (hw : ws = Cond.code y cc maxL ret :: ws')
    (body : ∀ (p : Program) (e : Env) (s : State) (m : MethodId) (below : List Frame) (meth : Method) (c : Code), qC E p s m av.toArray meth c cc maxL ws own ret → gM E ad S A b (gAr ad s.heap.size) s s.heap [] → W p l e (headSpec ws rm).room s m av.toArray below meth c s.heap [] 0 0 (MQ below (gQi E ad s.heap.size post) av.toArray s 0 0 (gAr ad s.heap.size)) (entryFrame m av.toArray maxL)) : GI E ad l y ws rm av S A b post := by
  intro sz
  refine Met.ofW (cc := cc) (maxL := maxL) (ret := ret) hy hw ?_
  intro p e s m args below meth c s₁ B hml hv
  obtain ⟨rfl, hsz, hP, hK, hD⟩ := hv
  subst hsz
  subst hown
  exact body p e s m below meth c ⟨B.exec, B.bytes, hml, findClass_of_methodNamed B.named, atoms_spec (ws := ws) B.pre, hK, B.notSynchronized, B.returns⟩ ⟨hP, gD_self hD, va_S.rf⟩
theorem GV.of {E : qE} {ad : Nat → Nat} {l : Launch} {y : MethodName} {ws ws' : List Cond} {rm : Room} {av : List Value} {S A : qA2} {b : qB} {post : qA2 → qA2 → qB → Prop} {cc : ByteArray} {maxL : Nat} {ret : Option FieldType} (own : String) (hown : y.cls = own) (hy : plainName y.cls = true) (hw : ws = Cond.code y cc maxL ret :: ws')
    (body : ∀ (p : Program) (e : Env) (s : State) (m : MethodId) (below : List Frame) (meth : Method) (c : Code), qC E p s m av.toArray meth c cc maxL ws own ret → gM E ad S A b (gAr ad s.heap.size) s s.heap [] → W p l e (headSpec ws rm).room s m av.toArray below meth c s.heap [] 0 0 (MQ below (gQv E ad s.heap.size post) av.toArray s 0 0 (gAr ad s.heap.size)) (entryFrame m av.toArray maxL)) : GV E ad l y ws rm av S A b post := by
  intro sz
  refine Met.ofW (cc := cc) (maxL := maxL) (ret := ret) hy hw ?_
  intro p e s m args below meth c s₁ B hml hv
  obtain ⟨rfl, hsz, hP, hK, hD⟩ := hv
  subst hsz
  subst hown
  exact body p e s m below meth c ⟨B.exec, B.bytes, hml, findClass_of_methodNamed B.named, atoms_spec (ws := ws) B.pre, hK, B.notSynchronized, B.returns⟩ ⟨hP, gD_self hD, va_S.rf⟩
section KB
variable {p : Program} {l : Launch} {e : Env} {R : Room} {s : State} {m : MethodId} {args : Array Value} {below : List Frame} {meth : Method} {c : Code} {H : Heap} {locs : List Loc} {cells slots : Nat} {Q : State → Prop}
variable {pc : Nat} {ls : Array Slot} {rest : List Value} {cc : ByteArray} {nL : Nat} {Ts : List Cond} {own : String} {rt : Option FieldType}
variable {E : qE} {ad : Nat → Nat} {S A : qA2} {b : qB} {Ar : Nat → Prop} {sz : Nat}
theorem g_get (C : qC E p s m args meth c cc nL Ts own rt) (hM : gM E ad S A b Ar s H locs) {o ci N index k : Nat} {ref Cn : String} {T : u_T} {fs : List Value} {v : Value} (ho : gmem E ad S A b o = .inr (ci, fs)) (hoN : o < 188) (hc : vwCl[ci]? = some (Cn, T, N)) (hin : ∀ w ∈ u_ws Cn T N, w ∈ Ts) (hk : k < N) (hlink : (Cond.fieldLink own index ref (T k).2.1 (T k).2.2.1).before args s = true) (hsame : (T k).1 = ref) (hv : fs[k]? = some v) (hdg : decode cc pc = .ok (.getfield index, 3))
    (kk : W p l e R s m args below meth c H locs cells slots Q (F0 m (pc + 3) ls (v :: rest))) : W p l e R s m args below meth c H locs cells slots Q (F0 m pc ls (.ref (ad o) :: rest)) :=
  va_get (D := E.1) (cl := vwCl) (ws := gW E ad S A b) C.1 C.2.1 C.2.2.2.2.1 hin C.2.2.2.1 C.2.2.2.2.2.1 hM.1 o ((gW_at E ad S A b hoN).trans (by rw [ho])) hc k hk hlink (fun x h => by rw [← hsame]; exact h) hv hdg kk
theorem g_put (C : qC E p s m args meth c cc nL Ts own rt) (hM : gM E ad S A b Ar s H locs) {o ci N index k : Nat} {ref Cn : String} {T : u_T} {fs : List Value} {v : Int32} {ty : FieldType} (ho : gmem E ad S A b o = .inr (ci, fs)) (hoN : o < 188) (hc : vwCl[ci]? = some (Cn, T, N)) (hin : ∀ w ∈ u_ws Cn T N, w ∈ Ts) (ty0 : Nat → FieldType) (hty : ∀ k, k < N → parseFieldDescriptor (T k).2.2.1 = some (ty0 k)) (hnm : ∀ a, a < N → ∀ b, b < N → a ≠ b → (T a).2.1 ≠ (T b).2.1) (hk : k < N) (hlink : (Cond.fieldLink own index ref (T k).2.1 (T k).2.2.1).before args s = true) (hsame : (T k).1 = ref) (hfin : (T k).2.2.2 = false) (hd : parseFieldDescriptor (T k).2.2.1 = some ty) (hn : narrow ty (.int v) = .int v) (hfit : fits ty (.int v) = true) (hl : k < fs.length) (hset : gmem E ad (q2 S o k v) A b o = .inr (ci, fs.set k (.int v))) (hdg : decode cc pc = .ok (.putfield index, 3))
    (kk : ∀ (H1 : Heap) (locs1 : List Loc), gM E ad (q2 S o k v) A b Ar s H1 locs1 → W p l e R s m args below meth c H1 locs1 cells slots Q (F0 m (pc + 3) ls rest)) : W p l e R s m args below meth c H locs cells slots Q (F0 m pc ls (.int v :: .ref (ad o) :: rest)) :=
  va_put (D := E.1) (cl := vwCl) (ws := gW E ad S A b) C.1 C.2.1 C.2.2.2.2.1 hin ty0 hty hnm C.2.2.2.1 C.2.2.2.2.2.1 hM.1 hM.2.1 hM.2.2 o ((gW_at E ad S A b hoN).trans (by rw [ho])) hc k hk hlink (fun x h => by rw [← hsame]; exact h) hfin hd hn hfit hl hdg (fun H1 locs1 h1 h2 h3 => by
    have he := gW_set E ad (S := S) (A := A) (S' := q2 S o k v) (A' := A) b hset (fun i hi => q2_or S v hi) (fun i hi => rfl)
    rw [he] at h1 h2
    exact kk H1 locs1 ⟨h1, h2, h3⟩)
theorem g_iald (C : qC E p s m args meth c cc nL Ts own rt) (hM : gM E ad S A b Ar s H locs) {o : Nat} (ho : gk o = 12) {i : Int32} (hin : vp_in i (ql o)) {v : Int32} (hv : A o i.toNatClampNeg = v) (hdg : decode cc pc = .ok (.iaload, 1))
    (kk : W p l e R s m args below meth c H locs cells slots Q (F0 m (pc + 1) ls (.int v :: rest))) : W p l e R s m args below meth c H locs cells slots Q (F0 m pc ls (.int i :: .ref (ad o) :: rest)) := by
  subst hv
  exact va_iald (D := E.1) (cl := vwCl) (tys := qT E) (ws := gW E ad S A b) C.1 C.2.1 C.2.2.2.2.2.1 hM.1 o 0 ((gW_at E ad S A b (gk_lt ho (by decide))).trans (by rw [gmem_12 E ad S A b ho])) rfl hin hdg kk
theorem g_iast (C : qC E p s m args meth c cc nL Ts own rt) (hM : gM E ad S A b Ar s H locs) {o : Nat} (ho : gk o = 12) {i x : Int32} (hin : vp_in i (ql o)) (hdg : decode cc pc = .ok (.iastore, 1))
    (kk : ∀ (H1 : Heap) (locs1 : List Loc), gM E ad S (q2 A o i.toNatClampNeg x) b Ar s H1 locs1 → W p l e R s m args below meth c H1 locs1 cells slots Q (F0 m (pc + 1) ls rest)) : W p l e R s m args below meth c H locs cells slots Q (F0 m pc ls (.int x :: .int i :: .ref (ad o) :: rest)) :=
  va_iast (D := E.1) (cl := vwCl) (tys := qT E) (ws := gW E ad S A b) C.1 C.2.1 C.2.2.2.2.2.1 hM.1 hM.2.1 hM.2.2 o 0 ((gW_at E ad S A b (gk_lt ho (by decide))).trans (by rw [gmem_12 E ad S A b ho])) rfl hin hdg (fun H1 locs1 h1 h2 h3 => by
    have he := gW_set E ad (S := S) (A := A) (S' := S) (A' := q2 A o i.toNatClampNeg x) b ((gmem_12 E ad S (q2 A o i.toNatClampNeg x) b ho).trans (by rw [q2_row])) (fun i hi => rfl) (fun i hi => q2_or A x hi)
    rw [he] at h1 h2
    exact kk H1 locs1 ⟨h1, h2, h3⟩)
theorem g_iret (C : qC E p s m args meth c cc nL Ts own (some .int)) {post : Int32 → qA2 → qA2 → qB → Prop} {v : Int32} (hM : gM E ad S A b (gAr ad sz) s H locs) (hdg : decode cc pc = .ok (.ireturn, 1)) (hq : post v S A b) : W p l e R s m args below meth c H locs cells slots (MQ below (gQi E ad sz post) args s cells slots (gAr ad sz)) (F0 m pc ls [.int v]) :=
  W.iret C.1 C.2.1 C.2.2.2.2.2.2.2 (fun t ht hW => ⟨⟨v, (S, A, b), rfl, hq, by rw [ht]; exact hM.1, va_K.moved hW.alike C.2.2.2.2.2.1, hM.2.1⟩, hM.2.2.F ht⟩) hM.2.2.2.2 hdg C.2.2.2.2.2.2.1
theorem g_vret (C : qC E p s m args meth c cc nL Ts own none) {post : qA2 → qA2 → qB → Prop} (hM : gM E ad S A b (gAr ad sz) s H locs) (hdg : decode cc pc = .ok (.return_, 1)) (hq : post S A b) : W p l e R s m args below meth c H locs cells slots (MQ below (gQv E ad sz post) args s cells slots (gAr ad sz)) (F0 m pc ls []) :=
  W.vret C.1 C.2.1 C.2.2.2.2.2.2.2 (fun t ht hW => ⟨⟨(S, A, b), rfl, hq, by rw [ht]; exact hM.1, va_K.moved hW.alike C.2.2.2.2.2.1, hM.2.1⟩, hM.2.2.F ht⟩) hM.2.2.2.2 hdg C.2.2.2.2.2.2.1
theorem g_sub (hM : gM E ad S A b Ar s H locs) (hA : ∀ q, s.heap.size ≤ q → Ar q) : ∀ q, gAr ad H.size q → Ar q := by
  intro q h
  rcases h with ⟨i, hi, rfl⟩ | h
  · exact hM.2.1.2 i _ (gW_at E ad S A b hi)
  · exact hA q (Nat.le_trans hM.2.2.1 h)
theorem g_back {S' A' : qA2} {b' : qB} {t : State} {H1 : Heap} {locs1 : List Loc} (hsub : ∀ q, gAr ad sz q → Ar q) (hB : gPost E ad sz (S', A', b') t) (ht : t.heap = H1) (hS : va_S Ar s.heap H1 locs1) : gM E ad S' A' b' Ar s H1 locs1 := by
  obtain ⟨hP1, hK1, hD1⟩ := hB
  rw [ht] at hP1
  exact ⟨hP1, ⟨hD1.1, fun k q hk => hsub _ (hD1.2 k q hk)⟩, hS⟩
theorem g_pre (C : qC E p s m args meth c cc nL Ts own rt) (hM : gM E ad S A b Ar s H locs) {av : List Value} : ∀ U : State, U.heap = H → s.WarmedH U.vm → va_Pc av (gPre E ad S A b H.size) av.toArray U :=
  fun U hU hW => ⟨rfl, by rw [hU], by rw [hU]; exact hM.1, va_K.moved hW.alike C.2.2.2.2.2.1, ⟨hM.2.1.1, fun _ _ _ => trivial⟩⟩
theorem g_callVI (C : qC E p s m args meth c cc nL Ts own rt) (hM : gM E ad S A b Ar s H locs) (hA : ∀ q, s.heap.size ≤ q → Ar q) {o ci N index maxL n : Nat} {Cn : String} {T : u_T} {fs : List Value} {y : MethodName} {bytes : ByteArray} {ret : Option FieldType} {ws ws' : List Cond} {rm : Room} {As st0 : List Value} {post : Int32 → qA2 → qA2 → qB → Prop} (K : GI E ad l y ws rm (.ref (ad o) :: As) S A b post) (ho : gmem E ad S A b o = .inr (ci, fs)) (hoN : o < 188) (hc : vwCl[ci]? = some (Cn, T, N)) (hG : GoodIn Ts (wsV own index Cn y ws)) (hw : ws = Cond.code y bytes maxL ret :: ws') (hrc : rm.cells = 0) (hrs : rm.slots = 0) (hd : y.cls = Cn ∧ y.cls ≠ "java/lang/invoke/MethodHandle" ∧ y.cls ≠ "java/lang/invoke/VarHandle" ∧ (parseMethodDescriptor y.desc).map (fun d => d.parameters.length) = some n) (hR : rm.frames + 1 ≤ R.frames ∧ 8 + (maxL + 11) + rm.locals ≤ R.locals) (hn : As.length = n) (hls : ls.size = nL) (hst : st0 = As.reverse ++ .ref (ad o) :: rest) (hroom : (rest.map fun v => v.category).sum ≤ 8) (hf : cells + 0 ≤ R.cells ∧ slots + 0 ≤ R.slots) (hdg : decode cc pc = .ok (.invokevirtual index, 3))
    (kk : ∀ (r : Int32) (S' A' : qA2) (b' : qB) (H1 : Heap) (locs1 : List Loc), post r S' A' b' → gM E ad S' A' b' Ar s H1 locs1 → W p l e R s m args below meth c H1 locs1 cells slots Q (F0 m (pc + 3) ls (.int r :: rest))) : W p l e R s m args below meth c H locs cells slots Q (F0 m pc ls st0) := by
  subst hst
  have hsub := g_sub hM hA
  refine va_calli (va_runV (As := As) (rest := rest) ⟨C.1, C.2.1, C.2.2.1, C.2.2.2.1, C.2.2.2.2.1⟩ (K H.size) (cwV n C.2.2.2.2.1 hG hw hrc hrs hd hR) ⟨gPre_blind, va_recv C.2.2.2.2.2.1 hM.1 hc ((gW_at E ad S A b hoN).trans (by rw [ho])), g_pre C hM⟩ rfl hn hls rfl (lv_room hroom) hdg hf) hM.2.2 (fun q _ h => hsub q h) hsub (fun r u t H1 locs1 ht hvm hw hB hz1 hk1 hS => ?_)
  exact kk r u.1 u.2.1 u.2.2 H1 locs1 hw (g_back hsub hB ht hS)
theorem g_callVV (C : qC E p s m args meth c cc nL Ts own rt) (hM : gM E ad S A b Ar s H locs) (hA : ∀ q, s.heap.size ≤ q → Ar q) {o ci N index maxL n : Nat} {Cn : String} {T : u_T} {fs : List Value} {y : MethodName} {bytes : ByteArray} {ret : Option FieldType} {ws ws' : List Cond} {rm : Room} {As st0 : List Value} {post : qA2 → qA2 → qB → Prop} (K : GV E ad l y ws rm (.ref (ad o) :: As) S A b post) (ho : gmem E ad S A b o = .inr (ci, fs)) (hoN : o < 188) (hc : vwCl[ci]? = some (Cn, T, N)) (hG : GoodIn Ts (wsV own index Cn y ws)) (hw : ws = Cond.code y bytes maxL ret :: ws') (hrc : rm.cells = 0) (hrs : rm.slots = 0) (hd : y.cls = Cn ∧ y.cls ≠ "java/lang/invoke/MethodHandle" ∧ y.cls ≠ "java/lang/invoke/VarHandle" ∧ (parseMethodDescriptor y.desc).map (fun d => d.parameters.length) = some n) (hR : rm.frames + 1 ≤ R.frames ∧ 8 + (maxL + 11) + rm.locals ≤ R.locals) (hn : As.length = n) (hls : ls.size = nL) (hst : st0 = As.reverse ++ .ref (ad o) :: rest) (hroom : (rest.map fun v => v.category).sum ≤ 8) (hf : cells + 0 ≤ R.cells ∧ slots + 0 ≤ R.slots) (hdg : decode cc pc = .ok (.invokevirtual index, 3))
    (kk : ∀ (S' A' : qA2) (b' : qB) (H1 : Heap) (locs1 : List Loc), post S' A' b' → gM E ad S' A' b' Ar s H1 locs1 → W p l e R s m args below meth c H1 locs1 cells slots Q (F0 m (pc + 3) ls rest)) : W p l e R s m args below meth c H locs cells slots Q (F0 m pc ls st0) := by
  subst hst
  have hsub := g_sub hM hA
  refine va_callv (va_runV (As := As) (rest := rest) ⟨C.1, C.2.1, C.2.2.1, C.2.2.2.1, C.2.2.2.2.1⟩ (K H.size) (cwV n C.2.2.2.2.1 hG hw hrc hrs hd hR) ⟨gPre_blind, va_recv C.2.2.2.2.2.1 hM.1 hc ((gW_at E ad S A b hoN).trans (by rw [ho])), g_pre C hM⟩ rfl hn hls rfl (lv_room hroom) hdg hf) hM.2.2 (fun q _ h => hsub q h) hsub (fun u t H1 locs1 ht hvm hw hB hz1 hk1 hS => ?_)
  exact kk u.1 u.2.1 u.2.2 H1 locs1 hw (g_back hsub hB ht hS)
end KB
theorem gs_9_5 (E : qE) (ad : Nat → Nat) (S A : qA2) (b : qB) {i : Nat} (h : gk i = 9) (v : Int32) : gmem E ad (q2 S i 5 v) A b i = .inr (9, (qo9 ad i S).set 5 (.int v)) := by rw [gmem_9 _ _ _ _ _ h]; simp [qo9, q2]
theorem gs_9_6 (E : qE) (ad : Nat → Nat) (S A : qA2) (b : qB) {i : Nat} (h : gk i = 9) (v : Int32) : gmem E ad (q2 S i 6 v) A b i = .inr (9, (qo9 ad i S).set 6 (.int v)) := by rw [gmem_9 _ _ _ _ _ h]; simp [qo9, q2]
theorem gs_9_7 (E : qE) (ad : Nat → Nat) (S A : qA2) (b : qB) {i : Nat} (h : gk i = 9) (v : Int32) : gmem E ad (q2 S i 7 v) A b i = .inr (9, (qo9 ad i S).set 7 (.int v)) := by rw [gmem_9 _ _ _ _ _ h]; simp [qo9, q2]
def gwP (w : Nat) : Prop := (gk w = 9 ∧ gk (w + 1) = 12 ∧ gk (w + 2) = 12 ∧ gk (w + 3) = 12 ∧ gk (w + 4) = 12 ∧ gk (w + 5) = 12) ∧ (ql (w + 1) = 12 ∧ ql (w + 2) = 6 ∧ ql (w + 3) = 6 ∧ ql (w + 4) = 5 ∧ ql (w + 5) = 5) ∧ 3 ≤ w ∧ w + 6 ≤ 162
theorem gw_all {w : Nat} (h : qw w) : gwP w := by
  have hh : ∀ w ∈ qwL, ((gk w = 9 ∧ gk (w + 1) = 12 ∧ gk (w + 2) = 12 ∧ gk (w + 3) = 12 ∧ gk (w + 4) = 12 ∧ gk (w + 5) = 12) ∧ (ql (w + 1) = 12 ∧ ql (w + 2) = 6 ∧ ql (w + 3) = 6 ∧ ql (w + 4) = 5 ∧ ql (w + 5) = 5) ∧ 3 ≤ w ∧ w + 6 ≤ 162) := by decide +kernel
  exact hh w h
theorem gpl_all {p : Nat} (h : qpl p) : (gk p = 5 ∧ gk (p + 1) = 12 ∧ gk (p + 2) = 12 ∧ gk (p + 3) = 12 ∧ gk (p + 4) = 12 ∧ gk (p + 5) = 12 ∧ gk (p + 6) = 12) ∧ (ql (p + 1) = 6 ∧ ql (p + 2) = 6 ∧ ql (p + 3) = 5 ∧ ql (p + 4) = 5 ∧ ql (p + 5) = 10 ∧ ql (p + 6) = 10) ∧ 174 ≤ p ∧ p + 7 ≤ 188 := by rcases h with h | h <;> subst h <;> decide +kernel
set_option maxHeartbeats 4000000 in
set_option maxRecDepth 100000 in
theorem g_X5_allPosts (E : qE) (ad : Nat → Nat) (l : Launch) (S A : qA2) (b : qB) (p : Nat) (hp : qpl p) (nP : Nat) (hPo : S p 4 = nI nP) (hPb : nP ≤ 6) : GI E ad l yX5_allPosts wsX5_allPosts { frames := 0, cells := 0, slots := 0, locals := 0 } [.ref (ad p)] S A b (fun r S' A' b' => (S = S' ∧ A = A' ∧ b = b') ∧ r = qall nP) := by
  obtain ⟨⟨kp, kp1, kp2, kp3, kp4, kp5, kp6⟩, ⟨lp1, lp2, lp3, lp4, lp5, lp6⟩, bp, bp7⟩ := gpl_all hp
  refine GI.of (cc := cX5_allPosts) (maxL := 1) (ret := some .int) RX5 rfl (by decide) rfl ?_
  intro pg e s m below meth cd C hM
  have hx := C.1
  have hb := C.2.1
  have hts := C.2.2.2.2.1
  have hA : ∀ q, s.heap.size ≤ q → gAr ad s.heap.size q := fun _ h => Or.inr h
  have hi5 : ∀ w ∈ u_ws RX5 TX5 13, w ∈ wsX5_allPosts := by decide +kernel
  have hL0 := hts (.fieldLink RX5 37 "CrowFences$Plan" "posts" "I") (by decide +kernel)
  have hl := lv_entry ([.ref (ad p)]) (n := 1) (Nat.le_of_ble_eq_true rfl)
  rw [lg_entry_eq]
  generalize (lg_sl ([.ref (ad p)]) ++ List.replicate (1 - (lg_sl ([.ref (ad p)])).length) Slot.unset).toArray = ls at hl ⊢
  have hl : lv_has ls 1 [(0, .ref (ad p))] := hl
  refine lv_iconst (v := 1) hx hb dX5_allPosts_0 (by decide) ?_
  refine lv_aload_n hx hb dX5_allPosts_1 rfl (lv_at hl 0 rfl) ?_
  refine g_get (o := p) (ci := 5) (k := 4) (T := TX5) (v := .int (S p 4)) C hM (gmem_5 E ad S A b kp) (by omega) rfl hi5 (by decide) hL0 rfl rfl dX5_allPosts_2 ?_
  refine lv_as (y := nI nP) hPo ?_
  refine lv_ishl hx hb dX5_allPosts_5 ?_
  refine lv_iconst (v := 1) hx hb dX5_allPosts_6 (by decide) ?_
  refine lv_isub hx hb dX5_allPosts_7 ?_
  exact g_iret C hM dX5_allPosts_8 (by exact ⟨⟨rfl, rfl, rfl⟩, rfl⟩)
set_option maxHeartbeats 4000000 in
set_option maxRecDepth 100000 in
theorem g_X9_begin (E : qE) (ad : Nat → Nat) (l : Launch) (S A : qA2) (b : qB) (w : Nat) (hw : qw w) (p : Nat) (hp : qpl p) (nP : Nat) (hPo : S p 4 = nI nP) (hPb : nP ≤ 6) : GV E ad l yX9_begin wsX9_begin { frames := 1, cells := 0, slots := 0, locals := 20 } [.ref (ad w), .ref (ad p)] S A b (fun S' A' b' => b = b' ∧ (A' (w + 1) = qmap (fun _ _ => 0) (A (w + 1)) 12 ∧ A' (w + 2) = qmap (fun a _ => A (p + 1) a) (A (w + 2)) 6 ∧ A' (w + 3) = qmap (fun _ _ => -1) (A (w + 3)) 6 ∧ A' (w + 4) = qmap (fun a _ => A (p + 3) a) (A (w + 4)) 5 ∧ A' (w + 5) = qmap (fun _ _ => 0) (A (w + 5)) 5) ∧ (∀ i, (i ≤ w ∨ w + 5 < i) → A' i = A i) ∧ S' = q2 (q2 (q2 S w 5 (qall nP)) w 6 0) w 7 0) := by
  obtain ⟨⟨kw, kw1, kw2, kw3, kw4, kw5⟩, ⟨lw1, lw2, lw3, lw4, lw5⟩, bw, bw6⟩ := gw_all hw
  obtain ⟨⟨kp, kp1, kp2, kp3, kp4, kp5, kp6⟩, ⟨lp1, lp2, lp3, lp4, lp5, lp6⟩, bp, bp7⟩ := gpl_all hp
  refine GV.of (cc := cX9_begin) (maxL := 3) (ret := none) RX9 rfl (by decide) rfl ?_
  intro pg e s m below meth cd C hM
  have hx := C.1
  have hb := C.2.1
  have hts := C.2.2.2.2.1
  have hA : ∀ q, s.heap.size ≤ q → gAr ad s.heap.size q := fun _ h => Or.inr h
  have hi5 : ∀ w ∈ u_ws RX5 TX5 13, w ∈ wsX9_begin := by decide +kernel
  have hi9 : ∀ w ∈ u_ws RX9 TX9 8, w ∈ wsX9_begin := by decide +kernel
  have hL0 := hts (.fieldLink RX9 35 "CrowFences$Winter" "standing" "I") (by decide +kernel)
  have hL1 := hts (.fieldLink RX9 39 "CrowFences$Winter" "hours" "I") (by decide +kernel)
  have hL2 := hts (.fieldLink RX9 42 "CrowFences$Winter" "spoons" "I") (by decide +kernel)
  have hL3 := hts (.fieldLink RX9 21 "CrowFences$Winter" "bid" "[I") (by decide +kernel)
  have hL4 := hts (.fieldLink RX9 30 "CrowFences$Plan" "bid" "[I") (by decide +kernel)
  have hL5 := hts (.fieldLink RX9 24 "CrowFences$Winter" "paid" "[I") (by decide +kernel)
  have hL6 := hts (.fieldLink RX9 15 "CrowFences$Winter" "cellOf" "[I") (by decide +kernel)
  have hL7 := hts (.fieldLink RX9 27 "CrowFences$Plan" "cellOf" "[I") (by decide +kernel)
  have hL8 := hts (.fieldLink RX9 18 "CrowFences$Winter" "crowOn" "[I") (by decide +kernel)
  have hL9 := hts (.fieldLink RX9 9 "CrowFences$Winter" "snow" "[I") (by decide +kernel)
  have hl := lv_entry ([.ref (ad w), .ref (ad p)]) (n := 3) (Nat.le_of_ble_eq_true rfl)
  rw [lg_entry_eq]
  generalize (lg_sl ([.ref (ad w), .ref (ad p)]) ++ List.replicate (3 - (lg_sl ([.ref (ad w), .ref (ad p)])).length) Slot.unset).toArray = ls at hl ⊢
  have hl : lv_has ls 3 [(0, .ref (ad w)), (1, .ref (ad p))] := hl
  refine lv_iconst (v := 0) hx hb dX9_begin_0 (by decide) ?_
  refine lv_istore_n (lv' := [(2, .int 0), (0, .ref (ad w)), (1, .ref (ad p))]) hx hb dX9_begin_1 rfl hl (by decide) rfl (fun ls hl => ?_)
  have loop2 : ∀ (fu : Nat) (k : Nat) (A2 : qA2) (hk : k ≤ 12) (hr1 : A2 (w + 1) = qmap (fun _ _ => 0) (A (w + 1)) k) (hr2 : A2 (w + 2) = qmap (fun a _ => A (p + 1) a) (A (w + 2)) 0) (hr3 : A2 (w + 3) = qmap (fun _ _ => -1) (A (w + 3)) 0) (hr4 : A2 (w + 4) = qmap (fun a _ => A (p + 3) a) (A (w + 4)) 0) (hr5 : A2 (w + 5) = qmap (fun _ _ => 0) (A (w + 5)) 0) (hf : ∀ i, (i ≤ w ∨ w + 5 < i) → A2 i = A i), 12 - k < fu → ∀ (H : Heap) (locs : List Loc) (ls : Array Slot), gM E ad S A2 b (gAr ad s.heap.size) s H locs → lv_has ls 3 [(2, .int (nI k)), (0, .ref (ad w)), (1, .ref (ad p))] → W pg l e (headSpec wsX9_begin { frames := 1, cells := 0, slots := 0, locals := 20 }).room s m ([.ref (ad w), .ref (ad p)] : List Value).toArray below meth cd H locs 0 0 (MQ below (gQv E ad s.heap.size (fun S' A' b' => b = b' ∧ (A' (w + 1) = qmap (fun _ _ => 0) (A (w + 1)) 12 ∧ A' (w + 2) = qmap (fun a _ => A (p + 1) a) (A (w + 2)) 6 ∧ A' (w + 3) = qmap (fun _ _ => -1) (A (w + 3)) 6 ∧ A' (w + 4) = qmap (fun a _ => A (p + 3) a) (A (w + 4)) 5 ∧ A' (w + 5) = qmap (fun _ _ => 0) (A (w + 5)) 5) ∧ (∀ i, (i ≤ w ∨ w + 5 < i) → A' i = A i) ∧ S' = q2 (q2 (q2 S w 5 (qall nP)) w 6 0) w 7 0)) ([.ref (ad w), .ref (ad p)] : List Value).toArray s 0 0 (gAr ad s.heap.size)) (F0 m 2 ls []) := by
    intro fu
    induction fu with
    | zero => intro k A2 hk hr1 hr2 hr3 hr4 hr5 hf hn; exact absurd hn (Nat.not_lt_zero _)
    | succ fu ih2 =>
      intro k A2 hk hr1 hr2 hr3 hr4 hr5 hf hn H locs ls hM hl
      refine lv_iload_n hx hb dX9_begin_2 rfl (lv_at hl 0 rfl) ?_
      refine lv_bipush (v := 12) hx hb dX9_begin_3 (by decide) ?_
      refine lv_icmp_ge (tgt := 21) hx hb dX9_begin_5 (by decide) (fun c_5 => ?_) (fun c_5 => ?_)
      · skip
        have c_5 : 12 ≤ k := (nI_leI (a := 12) (b := k) (by omega) (by omega)).mp c_5
        refine lv_iconst (v := 0) hx hb dX9_begin_21 (by decide) ?_
        refine lv_istore_n (lv' := [(2, .int 0), (0, .ref (ad w)), (1, .ref (ad p))]) hx hb dX9_begin_22 rfl hl (by decide) rfl (fun ls hl => ?_)
        have loop23 : ∀ (fu : Nat) (k : Nat) (A23 : qA2) (hk : k ≤ 6) (hr1 : A23 (w + 1) = qmap (fun _ _ => 0) (A (w + 1)) 12) (hr2 : A23 (w + 2) = qmap (fun a _ => A (p + 1) a) (A (w + 2)) k) (hr3 : A23 (w + 3) = qmap (fun _ _ => -1) (A (w + 3)) k) (hr4 : A23 (w + 4) = qmap (fun a _ => A (p + 3) a) (A (w + 4)) 0) (hr5 : A23 (w + 5) = qmap (fun _ _ => 0) (A (w + 5)) 0) (hf : ∀ i, (i ≤ w ∨ w + 5 < i) → A23 i = A i), 6 - k < fu → ∀ (H : Heap) (locs : List Loc) (ls : Array Slot), gM E ad S A23 b (gAr ad s.heap.size) s H locs → lv_has ls 3 [(2, .int (nI k)), (0, .ref (ad w)), (1, .ref (ad p))] → W pg l e (headSpec wsX9_begin { frames := 1, cells := 0, slots := 0, locals := 20 }).room s m ([.ref (ad w), .ref (ad p)] : List Value).toArray below meth cd H locs 0 0 (MQ below (gQv E ad s.heap.size (fun S' A' b' => b = b' ∧ (A' (w + 1) = qmap (fun _ _ => 0) (A (w + 1)) 12 ∧ A' (w + 2) = qmap (fun a _ => A (p + 1) a) (A (w + 2)) 6 ∧ A' (w + 3) = qmap (fun _ _ => -1) (A (w + 3)) 6 ∧ A' (w + 4) = qmap (fun a _ => A (p + 3) a) (A (w + 4)) 5 ∧ A' (w + 5) = qmap (fun _ _ => 0) (A (w + 5)) 5) ∧ (∀ i, (i ≤ w ∨ w + 5 < i) → A' i = A i) ∧ S' = q2 (q2 (q2 S w 5 (qall nP)) w 6 0) w 7 0)) ([.ref (ad w), .ref (ad p)] : List Value).toArray s 0 0 (gAr ad s.heap.size)) (F0 m 23 ls []) := by
          intro fu
          induction fu with
          | zero => intro k A23 hk hr1 hr2 hr3 hr4 hr5 hf hn; exact absurd hn (Nat.not_lt_zero _)
          | succ fu ih23 =>
            intro k A23 hk hr1 hr2 hr3 hr4 hr5 hf hn H locs ls hM hl
            refine lv_iload_n hx hb dX9_begin_23 rfl (lv_at hl 0 rfl) ?_
            refine lv_bipush (v := 6) hx hb dX9_begin_24 (by decide) ?_
            refine lv_icmp_ge (tgt := 54) hx hb dX9_begin_26 (by decide) (fun c_26 => ?_) (fun c_26 => ?_)
            · skip
              have c_26 : 6 ≤ k := (nI_leI (a := 6) (b := k) (by omega) (by omega)).mp c_26
              refine lv_iconst (v := 0) hx hb dX9_begin_54 (by decide) ?_
              refine lv_istore_n (lv' := [(2, .int 0), (0, .ref (ad w)), (1, .ref (ad p))]) hx hb dX9_begin_55 rfl hl (by decide) rfl (fun ls hl => ?_)
              have loop56 : ∀ (fu : Nat) (k : Nat) (A56 : qA2) (hk : k ≤ 5) (hr1 : A56 (w + 1) = qmap (fun _ _ => 0) (A (w + 1)) 12) (hr2 : A56 (w + 2) = qmap (fun a _ => A (p + 1) a) (A (w + 2)) 6) (hr3 : A56 (w + 3) = qmap (fun _ _ => -1) (A (w + 3)) 6) (hr4 : A56 (w + 4) = qmap (fun a _ => A (p + 3) a) (A (w + 4)) k) (hr5 : A56 (w + 5) = qmap (fun _ _ => 0) (A (w + 5)) k) (hf : ∀ i, (i ≤ w ∨ w + 5 < i) → A56 i = A i), 5 - k < fu → ∀ (H : Heap) (locs : List Loc) (ls : Array Slot), gM E ad S A56 b (gAr ad s.heap.size) s H locs → lv_has ls 3 [(2, .int (nI k)), (0, .ref (ad w)), (1, .ref (ad p))] → W pg l e (headSpec wsX9_begin { frames := 1, cells := 0, slots := 0, locals := 20 }).room s m ([.ref (ad w), .ref (ad p)] : List Value).toArray below meth cd H locs 0 0 (MQ below (gQv E ad s.heap.size (fun S' A' b' => b = b' ∧ (A' (w + 1) = qmap (fun _ _ => 0) (A (w + 1)) 12 ∧ A' (w + 2) = qmap (fun a _ => A (p + 1) a) (A (w + 2)) 6 ∧ A' (w + 3) = qmap (fun _ _ => -1) (A (w + 3)) 6 ∧ A' (w + 4) = qmap (fun a _ => A (p + 3) a) (A (w + 4)) 5 ∧ A' (w + 5) = qmap (fun _ _ => 0) (A (w + 5)) 5) ∧ (∀ i, (i ≤ w ∨ w + 5 < i) → A' i = A i) ∧ S' = q2 (q2 (q2 S w 5 (qall nP)) w 6 0) w 7 0)) ([.ref (ad w), .ref (ad p)] : List Value).toArray s 0 0 (gAr ad s.heap.size)) (F0 m 56 ls []) := by
                intro fu
                induction fu with
                | zero => intro k A56 hk hr1 hr2 hr3 hr4 hr5 hf hn; exact absurd hn (Nat.not_lt_zero _)
                | succ fu ih56 =>
                  intro k A56 hk hr1 hr2 hr3 hr4 hr5 hf hn H locs ls hM hl
                  refine lv_iload_n hx hb dX9_begin_56 rfl (lv_at hl 0 rfl) ?_
                  refine lv_iconst (v := 5) hx hb dX9_begin_57 (by decide) ?_
                  refine lv_icmp_ge (tgt := 86) hx hb dX9_begin_58 (by decide) (fun c_58 => ?_) (fun c_58 => ?_)
                  · skip
                    have c_58 : 5 ≤ k := (nI_leI (a := 5) (b := k) (by omega) (by omega)).mp c_58
                    refine lv_aload_n hx hb dX9_begin_86 rfl (lv_at hl 1 rfl) ?_
                    refine lv_aload_n hx hb dX9_begin_87 rfl (lv_at hl 2 rfl) ?_
                    refine g_callVI (n := 0) (o := p) (As := []) (rest := [.ref (ad w)]) C hM hA (g_X5_allPosts E ad l S A56 b p hp nP hPo (by omega)) (gmem_5 E ad S A56 b kp) (by omega) rfl gX9_begin_X5_allPosts rfl rfl rfl (by decide +kernel) ⟨Nat.le_of_ble_eq_true rfl, Nat.le_of_ble_eq_true rfl⟩ rfl hl.1 rfl (Nat.le_of_ble_eq_true rfl) ⟨Nat.zero_le _, Nat.zero_le _⟩ dX9_begin_88 (fun r_1 S_2 A_3 b_4 H locs qr_1 hM => ?_)
                    obtain ⟨⟨e1, e2, e3⟩, er_1⟩ := qr_1
                    subst e1; subst e2; subst e3
                    refine g_put (o := w) (ci := 9) (k := 5) (T := TX9) (ty := .int) (v := r_1) C hM (gmem_9 E ad S A56 b kw) (by omega) rfl hi9 tyX9 tyX9_ok nmX9 (by decide) hL0 rfl rfl (by decide +kernel) rfl rfl (Nat.le_of_ble_eq_true rfl) (gs_9_5 E ad S A56 b kw r_1) dX9_begin_91 (fun H locs hM => ?_)
                    obtain ⟨S_5, eS_5⟩ : ∃ zz, zz = q2 S w 5 r_1 := ⟨_, rfl⟩
                    rw [← eS_5] at hM
                    refine lv_aload_n hx hb dX9_begin_94 rfl (lv_at hl 1 rfl) ?_
                    refine lv_iconst (v := 0) hx hb dX9_begin_95 (by decide) ?_
                    refine g_put (o := w) (ci := 9) (k := 6) (T := TX9) (ty := .int) (v := 0) C hM (gmem_9 E ad S_5 A56 b kw) (by omega) rfl hi9 tyX9 tyX9_ok nmX9 (by decide) hL1 rfl rfl (by decide +kernel) rfl rfl (Nat.le_of_ble_eq_true rfl) (gs_9_6 E ad S_5 A56 b kw 0) dX9_begin_96 (fun H locs hM => ?_)
                    obtain ⟨S_6, eS_6⟩ : ∃ zz, zz = q2 S_5 w 6 0 := ⟨_, rfl⟩
                    rw [← eS_6] at hM
                    refine lv_aload_n hx hb dX9_begin_99 rfl (lv_at hl 1 rfl) ?_
                    refine lv_iconst (v := 0) hx hb dX9_begin_100 (by decide) ?_
                    refine g_put (o := w) (ci := 9) (k := 7) (T := TX9) (ty := .int) (v := 0) C hM (gmem_9 E ad S_6 A56 b kw) (by omega) rfl hi9 tyX9 tyX9_ok nmX9 (by decide) hL2 rfl rfl (by decide +kernel) rfl rfl (Nat.le_of_ble_eq_true rfl) (gs_9_7 E ad S_6 A56 b kw 0) dX9_begin_101 (fun H locs hM => ?_)
                    obtain ⟨S_7, eS_7⟩ : ∃ zz, zz = q2 S_6 w 7 0 := ⟨_, rfl⟩
                    rw [← eS_7] at hM
                    exact g_vret C hM dX9_begin_104 (by subst_vars; refine ⟨rfl, ⟨hr1, hr2, hr3, ?_, ?_⟩, hf, rfl⟩; exact (by rw [hr4, show k = 5 by omega]); exact (by rw [hr5, show k = 5 by omega]))
                  · skip
                    have c_58 : ¬ (5 ≤ k) := fun z => c_58 ((nI_leI (a := 5) (b := k) (by omega) (by omega)).mpr z)
                    refine lv_aload_n hx hb dX9_begin_61 rfl (lv_at hl 1 rfl) ?_
                    refine g_get (o := w) (ci := 9) (k := 3) (T := TX9) (v := .ref (ad (w + 4))) C hM (gmem_9 E ad S A56 b kw) (by omega) rfl hi9 (by decide) hL3 rfl rfl dX9_begin_62 ?_
                    refine lv_iload_n hx hb dX9_begin_65 rfl (lv_at hl 0 rfl) ?_
                    refine lv_aload_n hx hb dX9_begin_66 rfl (lv_at hl 2 rfl) ?_
                    refine g_get (o := p) (ci := 5) (k := 9) (T := TX5) (v := .ref (ad (p + 3))) C hM (gmem_5 E ad S A56 b kp) (by omega) rfl hi5 (by decide) hL4 rfl rfl dX9_begin_67 ?_
                    refine lv_iload_n hx hb dX9_begin_70 rfl (lv_at hl 0 rfl) ?_
                    refine g_iald (v := A (p + 3) k) C hM kp3 (by rw [lp3]; exact vp_nI (by omega) (by omega)) (by rw [nIc (by omega)]; exact (show A56 (p + 3) k = A (p + 3) k from by rw [hf (p + 3) (by omega)])) dX9_begin_71 ?_
                    refine g_iast C hM kw4 (by rw [lw4]; exact vp_nI (by omega) (by omega)) dX9_begin_72 (fun H locs hM => ?_)
                    rw [nIc (by omega)] at hM
                    obtain ⟨A_8, eA_8⟩ : ∃ zz, zz = q2 A56 (w + 4) k (A (p + 3) k) := ⟨_, rfl⟩
                    rw [← eA_8] at hM
                    refine lv_aload_n hx hb dX9_begin_73 rfl (lv_at hl 1 rfl) ?_
                    refine g_get (o := w) (ci := 9) (k := 4) (T := TX9) (v := .ref (ad (w + 5))) C hM (gmem_9 E ad S A_8 b kw) (by omega) rfl hi9 (by decide) hL5 rfl rfl dX9_begin_74 ?_
                    refine lv_iload_n hx hb dX9_begin_77 rfl (lv_at hl 0 rfl) ?_
                    refine lv_iconst (v := 0) hx hb dX9_begin_78 (by decide) ?_
                    refine g_iast C hM kw5 (by rw [lw5]; exact vp_nI (by omega) (by omega)) dX9_begin_79 (fun H locs hM => ?_)
                    rw [nIc (by omega)] at hM
                    obtain ⟨A_9, eA_9⟩ : ∃ zz, zz = q2 A_8 (w + 5) k 0 := ⟨_, rfl⟩
                    rw [← eA_9] at hM
                    refine lv_iinc (v := nI (k + 1)) (lv' := [(2, .int (nI (k + 1))), (0, .ref (ad w)), (1, .ref (ad p))]) hx hb dX9_begin_80 hl (k := 0) rfl (by rw [nI_succ]; rfl) (by decide) rfl (fun ls hl => ?_)
                    refine lv_goto (tgt := 56) hx hb dX9_begin_83 (by decide) ?_
                    exact ih56 (k + 1) A_9 (by omega) (by rw [eA_9, q2_or _ _ (by omega), eA_8, q2_or _ _ (by omega)]; exact hr1) (by rw [eA_9, q2_or _ _ (by omega), eA_8, q2_or _ _ (by omega)]; exact hr2) (by rw [eA_9, q2_or _ _ (by omega), eA_8, q2_or _ _ (by omega)]; exact hr3) (by rw [eA_9, q2_or _ _ (by omega), eA_8, q2_row, hr4]; exact qmap_s _ _ _ _ rfl) (by rw [eA_9, q2_row, eA_8, q2_or _ _ (by omega), hr5]; exact qmap_s _ _ _ _ rfl) (fun i hi => by rw [eA_9, q2_or _ _ (by omega), eA_8, q2_or _ _ (by omega)]; exact hf i hi) (by omega) _ _ _ hM hl
              exact loop56 (5 - 0 + 1) 0 A23 (by omega) hr1 (by rw [hr2, show k = 6 by omega]) (by rw [hr3, show k = 6 by omega]) hr4 hr5 hf (Nat.lt_succ_self _) _ _ _ hM hl
            · skip
              have c_26 : ¬ (6 ≤ k) := fun z => c_26 ((nI_leI (a := 6) (b := k) (by omega) (by omega)).mpr z)
              refine lv_aload_n hx hb dX9_begin_29 rfl (lv_at hl 1 rfl) ?_
              refine g_get (o := w) (ci := 9) (k := 1) (T := TX9) (v := .ref (ad (w + 2))) C hM (gmem_9 E ad S A23 b kw) (by omega) rfl hi9 (by decide) hL6 rfl rfl dX9_begin_30 ?_
              refine lv_iload_n hx hb dX9_begin_33 rfl (lv_at hl 0 rfl) ?_
              refine lv_aload_n hx hb dX9_begin_34 rfl (lv_at hl 2 rfl) ?_
              refine g_get (o := p) (ci := 5) (k := 7) (T := TX5) (v := .ref (ad (p + 1))) C hM (gmem_5 E ad S A23 b kp) (by omega) rfl hi5 (by decide) hL7 rfl rfl dX9_begin_35 ?_
              refine lv_iload_n hx hb dX9_begin_38 rfl (lv_at hl 0 rfl) ?_
              refine g_iald (v := A (p + 1) k) C hM kp1 (by rw [lp1]; exact vp_nI (by omega) (by omega)) (by rw [nIc (by omega)]; exact (show A23 (p + 1) k = A (p + 1) k from by rw [hf (p + 1) (by omega)])) dX9_begin_39 ?_
              refine g_iast C hM kw2 (by rw [lw2]; exact vp_nI (by omega) (by omega)) dX9_begin_40 (fun H locs hM => ?_)
              rw [nIc (by omega)] at hM
              obtain ⟨A_10, eA_10⟩ : ∃ zz, zz = q2 A23 (w + 2) k (A (p + 1) k) := ⟨_, rfl⟩
              rw [← eA_10] at hM
              refine lv_aload_n hx hb dX9_begin_41 rfl (lv_at hl 1 rfl) ?_
              refine g_get (o := w) (ci := 9) (k := 2) (T := TX9) (v := .ref (ad (w + 3))) C hM (gmem_9 E ad S A_10 b kw) (by omega) rfl hi9 (by decide) hL8 rfl rfl dX9_begin_42 ?_
              refine lv_iload_n hx hb dX9_begin_45 rfl (lv_at hl 0 rfl) ?_
              refine lv_iconst (v := (-1)) hx hb dX9_begin_46 (by decide) ?_
              refine g_iast C hM kw3 (by rw [lw3]; exact vp_nI (by omega) (by omega)) dX9_begin_47 (fun H locs hM => ?_)
              rw [nIc (by omega)] at hM
              obtain ⟨A_11, eA_11⟩ : ∃ zz, zz = q2 A_10 (w + 3) k (-1) := ⟨_, rfl⟩
              rw [← eA_11] at hM
              refine lv_iinc (v := nI (k + 1)) (lv' := [(2, .int (nI (k + 1))), (0, .ref (ad w)), (1, .ref (ad p))]) hx hb dX9_begin_48 hl (k := 0) rfl (by rw [nI_succ]; rfl) (by decide) rfl (fun ls hl => ?_)
              refine lv_goto (tgt := 23) hx hb dX9_begin_51 (by decide) ?_
              exact ih23 (k + 1) A_11 (by omega) (by rw [eA_11, q2_or _ _ (by omega), eA_10, q2_or _ _ (by omega)]; exact hr1) (by rw [eA_11, q2_or _ _ (by omega), eA_10, q2_row, hr2]; exact qmap_s _ _ _ _ rfl) (by rw [eA_11, q2_row, eA_10, q2_or _ _ (by omega), hr3]; exact qmap_s _ _ _ _ rfl) (by rw [eA_11, q2_or _ _ (by omega), eA_10, q2_or _ _ (by omega)]; exact hr4) (by rw [eA_11, q2_or _ _ (by omega), eA_10, q2_or _ _ (by omega)]; exact hr5) (fun i hi => by rw [eA_11, q2_or _ _ (by omega), eA_10, q2_or _ _ (by omega)]; exact hf i hi) (by omega) _ _ _ hM hl
        exact loop23 (6 - 0 + 1) 0 A2 (by omega) (by rw [hr1, show k = 12 by omega]) hr2 hr3 hr4 hr5 hf (Nat.lt_succ_self _) _ _ _ hM hl
      · skip
        have c_5 : ¬ (12 ≤ k) := fun z => c_5 ((nI_leI (a := 12) (b := k) (by omega) (by omega)).mpr z)
        refine lv_aload_n hx hb dX9_begin_8 rfl (lv_at hl 1 rfl) ?_
        refine g_get (o := w) (ci := 9) (k := 0) (T := TX9) (v := .ref (ad (w + 1))) C hM (gmem_9 E ad S A2 b kw) (by omega) rfl hi9 (by decide) hL9 rfl rfl dX9_begin_9 ?_
        refine lv_iload_n hx hb dX9_begin_12 rfl (lv_at hl 0 rfl) ?_
        refine lv_iconst (v := 0) hx hb dX9_begin_13 (by decide) ?_
        refine g_iast C hM kw1 (by rw [lw1]; exact vp_nI (by omega) (by omega)) dX9_begin_14 (fun H locs hM => ?_)
        rw [nIc (by omega)] at hM
        obtain ⟨A_12, eA_12⟩ : ∃ zz, zz = q2 A2 (w + 1) k 0 := ⟨_, rfl⟩
        rw [← eA_12] at hM
        refine lv_iinc (v := nI (k + 1)) (lv' := [(2, .int (nI (k + 1))), (0, .ref (ad w)), (1, .ref (ad p))]) hx hb dX9_begin_15 hl (k := 0) rfl (by rw [nI_succ]; rfl) (by decide) rfl (fun ls hl => ?_)
        refine lv_goto (tgt := 2) hx hb dX9_begin_18 (by decide) ?_
        exact ih2 (k + 1) A_12 (by omega) (by rw [eA_12, q2_row, hr1]; exact qmap_s _ _ _ _ rfl) (by rw [eA_12, q2_or _ _ (by omega)]; exact hr2) (by rw [eA_12, q2_or _ _ (by omega)]; exact hr3) (by rw [eA_12, q2_or _ _ (by omega)]; exact hr4) (by rw [eA_12, q2_or _ _ (by omega)]; exact hr5) (fun i hi => by rw [eA_12, q2_or _ _ (by omega)]; exact hf i hi) (by omega) _ _ _ hM hl
  exact loop2 (12 - 0 + 1) 0 A (by omega) ((qmap_0 _ _).symm) ((qmap_0 _ _).symm) ((qmap_0 _ _).symm) ((qmap_0 _ _).symm) ((qmap_0 _ _).symm) (fun _ _ => rfl) (Nat.lt_succ_self _) _ _ _ hM hl
