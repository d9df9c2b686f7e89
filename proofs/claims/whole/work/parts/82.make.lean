/-! what the makers leave -/
def S0 : qA2 := fun i j => if (i = 1 ∧ j = 3) ∨ (i = 188 ∧ j = 15) then -1 else 0
def A0 : qA2 := fun _ _ => 0
def fin (E : qE) (sz : Nat) (i : Nat) : va_E := qmem E (fun j => sz + j) S0 A0 (174, 181) i
def mix (F cn : Nat → va_E) (w : Nat) : Nat → va_E := fun i => if i < w then cn i else F i
theorem fin_12 (E : qE) (sz : Nat) {i : Nat} (h : qk i = 12) : fin E sz i = .inl (E.2.1, ql i, .inl (fun _ => 0)) := qmem_12 _ _ _ _ _ h
/-- while the cell w is made: what was, the cell itself, what it made (each as it stays), and one row x under way -/
def nF (F cn : Nat → va_E) (w ci : Nat) (fs : List Value) (x : Nat) (X : va_E) (n : Nat) (c : Nat → va_E) : Prop := (∀ i, i < w → c i = cn i) ∧ c w = .inr (ci, fs) ∧ (∀ i, w < i → i < n → i ≠ x → c i = F i) ∧ (w < x → x < n → c x = X)
def nS (E : qE) (sz : Nat) (F cn : Nat → va_E) (w ci : Nat) (fs : List Value) (x : Nat) (X : va_E) (n : Nat) (s : State) (H : Heap) (locs : List Loc) : Prop := ∃ c, nF F cn w ci fs x X n c ∧ nM E sz c n s H locs
def nT (E : qE) (sz : Nat) (F cn : Nat → va_E) (w ci : Nat) (fs : List Value) (x : Nat) (X : va_E) (n : Nat) (Y : va_E) (s : State) (H : Heap) (locs : List Loc) : Prop := ∃ c, nF F cn w ci fs x X n c ∧ nM E sz (cu c n Y) (n + 1) s H locs
section NF
variable {w ci x n : Nat} {F cn c : Nat → va_E} {fs fs' : List Value} {X Y : va_E}
theorem nF_push (h : nF F cn w ci fs x X n c) (hwn : w < n) (hx : n ≠ x) (hY : Y = F n) : nF F cn w ci fs x X (n + 1) (cu c n Y) := by
  obtain ⟨h1, h2, h3, h4⟩ := h
  refine ⟨fun i hi => ?_, ?_, fun i hi hi2 hi3 => ?_, fun g1 g2 => ?_⟩
  · rw [cu_o _ _ (by omega)]; exact h1 i hi
  · rw [cu_o _ _ (by omega)]; exact h2
  · by_cases e : i = n
    · subst e; rw [cu_s, hY]
    · rw [cu_o _ _ e]; exact h3 i hi (by omega) hi3
  · rw [cu_o _ _ (by omega)]; exact h4 g1 (by omega)
theorem nF_x (h : nF F cn w ci fs n X n c) (hwn : w < n) : nF F cn w ci fs n Y (n + 1) (cu c n Y) := by
  obtain ⟨h1, h2, h3, h4⟩ := h
  refine ⟨fun i hi => ?_, ?_, fun i hi hi2 hi3 => ?_, fun g1 g2 => ?_⟩
  · rw [cu_o _ _ (by omega)]; exact h1 i hi
  · rw [cu_o _ _ (by omega)]; exact h2
  · rw [cu_o _ _ hi3]; exact h3 i hi (by omega) hi3
  · rw [cu_s]
theorem nF_up (h : nF F cn w ci fs x X n c) (hwx : w < x) : nF F cn w ci fs x Y n (cu c x Y) := by
  obtain ⟨h1, h2, h3, h4⟩ := h
  refine ⟨fun i hi => ?_, ?_, fun i hi hi2 hi3 => ?_, fun g1 g2 => ?_⟩
  · rw [cu_o _ _ (by omega)]; exact h1 i hi
  · rw [cu_o _ _ (by omega)]; exact h2
  · rw [cu_o _ _ hi3]; exact h3 i hi hi2 hi3
  · rw [cu_s]
theorem nF_set (h : nF F cn w ci fs x X n c) : nF F cn w ci fs' x X n (cu c w (.inr (ci, fs'))) := by
  obtain ⟨h1, h2, h3, h4⟩ := h
  refine ⟨fun i hi => ?_, ?_, fun i hi hi2 hi3 => ?_, fun g1 g2 => ?_⟩
  · rw [cu_o _ _ (by omega)]; exact h1 i hi
  · rw [cu_s]
  · rw [cu_o _ _ (by omega)]; exact h3 i hi hi2 hi3
  · rw [cu_o _ _ (by omega)]; exact h4 g1 g2
theorem nF_mix {n' : Nat} (h : nF F cn w ci fs x X n c) (hwn : w < n) (hx : x < n ∨ n' ≤ x) : nF F cn w ci fs x X n' (mix F (cu c n Y) n) := by
  obtain ⟨h1, h2, h3, h4⟩ := h
  have lo : ∀ i, i < n → mix F (cu c n Y) n i = c i := fun i hi => by
    unfold mix
    rw [if_pos hi, cu_o _ _ (by omega)]
  refine ⟨fun i hi => ?_, ?_, fun i hi hi2 hi3 => ?_, fun g1 g2 => ?_⟩
  · rw [lo i (by omega)]; exact h1 i hi
  · rw [lo w hwn]; exact h2
  · by_cases e : i < n
    · rw [lo i e]; exact h3 i hi e hi3
    · unfold mix
      rw [if_neg e]
  · rw [lo x (by omega)]; exact h4 g1 (by omega)
theorem nF_0 (h : cn w = .inr (ci, fs)) : nF F cn w ci fs x X (w + 1) cn := ⟨fun _ _ => rfl, h, fun i h1 h2 => by omega, fun h1 h2 => by omega⟩
end NF
section NG
variable {p : Program} {l : Launch} {e : Env} {R : Room} {s : State} {m : MethodId} {args : Array Value} {below : List Frame} {meth : Method} {c : Code} {H : Heap} {locs : List Loc} {cells slots : Nat} {Q : State → Prop}
variable {pc : Nat} {ls : Array Slot} {rest : List Value} {cc : ByteArray} {nL : Nat} {Ts : List Cond} {own : String}
variable {E : qE} {sz n n0 w ci x : Nat} {F cn : Nat → va_E} {fs : List Value} {X : va_E}
theorem nS_0 (h : cn w = .inr (ci, fs)) (hM : nM E sz cn (w + 1) s H locs) : nS E sz F cn w ci fs x X (w + 1) s H locs := ⟨cn, nF_0 h, hM⟩
theorem s_newi (C : nC E sz n0 p s m args meth c cc nL Ts own) (hM : nS E sz F cn w ci fs x X n s H locs) (hn : n = n0 + cells) (hwn : w < n) (hx : n ≠ x) {v : Int32} {L : Nat} (hk : F n = .inl (E.2.1, L, .inl (fun _ => 0))) (harr : (Cond.arrayClass .int).before args s = true) (hv : ¬ v < 0) (hL : v.toNatClampNeg = L) (hb : L * componentBytes .int ≤ 536870912) (hcells : cells + 1 ≤ R.cells) (hslots : slots + L ≤ R.slots) (hdg : decode cc pc = .ok (.newarray .int, 2))
    (kk : ∀ H1 : Heap, nS E sz F cn w ci fs x X (n + 1) s H1 locs → W p l e R s m args below meth c H1 locs (cells + 1) (slots + L) Q (F0 m (pc + 2) ls (.ref (sz + n) :: rest))) : W p l e R s m args below meth c H locs cells slots Q (F0 m pc ls (.int v :: rest)) := by
  obtain ⟨k, hF, hM⟩ := hM
  exact n_newi C hM hn harr hv hL hb hcells hslots hdg (fun H1 hM1 => kk H1 ⟨_, nF_push hF hwn hx hk.symm, hM1⟩)
theorem s_newz (C : nC E sz n0 p s m args meth c cc nL Ts own) (hM : nS E sz F cn w ci fs x X n s H locs) (hn : n = n0 + cells) (hwn : w < n) (hx : n ≠ x) {v : Int32} {L : Nat} (hk : F n = .inl (E.2.2.1, L, .inl (fun _ => 0))) (harr : (Cond.arrayClass .boolean).before args s = true) (hv : ¬ v < 0) (hL : v.toNatClampNeg = L) (hb : L * componentBytes .boolean ≤ 536870912) (hcells : cells + 1 ≤ R.cells) (hslots : slots + L ≤ R.slots) (hdg : decode cc pc = .ok (.newarray .boolean, 2))
    (kk : ∀ H1 : Heap, nS E sz F cn w ci fs x X (n + 1) s H1 locs → W p l e R s m args below meth c H1 locs (cells + 1) (slots + L) Q (F0 m (pc + 2) ls (.ref (sz + n) :: rest))) : W p l e R s m args below meth c H locs cells slots Q (F0 m pc ls (.int v :: rest)) := by
  obtain ⟨k, hF, hM⟩ := hM
  exact n_newz C hM hn harr hv hL hb hcells hslots hdg (fun H1 hM1 => kk H1 ⟨_, nF_push hF hwn hx hk.symm, hM1⟩)
theorem s_new (C : nC E sz n0 p s m args meth c cc nL Ts own) (hM : nS E sz F cn w ci fs x X n s H locs) (hn : n = n0 + cells) {cj N index : Nat} {Cn : String} {T : u_T} {ds : List Value} (hin : ∀ w ∈ u_ws Cn T N, w ∈ Ts) (ty0 : Nat → FieldType) (hty : ∀ k, k < N → parseFieldDescriptor (T k).2.2.1 = some (ty0 k)) (hcl : (Cond.classLink own index Cn).before args s = true) (hinst : (Cond.instantiable Cn N).before args s = true) (hini : (Cond.initialized Cn).before args s = true) (hc : vwCl[cj]? = some (Cn, T, N)) (hfs : ∀ j, j < N → defaultValue (ty0 j) = vp_V ds j) (hcells : cells + 1 ≤ R.cells) (hslots : slots + N ≤ R.slots) (hdg : decode cc pc = .ok (.new index, 3))
    (kk : ∀ H1 : Heap, nT E sz F cn w ci fs x X n (.inr (cj, ds)) s H1 locs → W p l e R s m args below meth c H1 locs (cells + 1) (slots + N) Q (F0 m (pc + 3) ls (.ref (sz + n) :: rest))) : W p l e R s m args below meth c H locs cells slots Q (F0 m pc ls rest) := by
  obtain ⟨k, hF, hM⟩ := hM
  exact n_new C hM hn hin ty0 hty hcl hinst hini hc hfs hcells hslots hdg (fun H1 hM1 => kk H1 ⟨k, hF, hM1⟩)
theorem s_callN (C : nC E sz n0 p s m args meth c cc nL Ts own) {Y : va_E} (hM : nT E sz F cn w ci fs x X n Y s H locs) (hn : n + 1 = n0 + cells) (hwn : w < n) {index maxL mc ms n' : Nat} (hx : x < n ∨ n' ≤ x) {y : MethodName} {bytes : ByteArray} {ws ws' : List Cond} {rm : Room} (K : ∀ k : Nat → va_E, k n = Y → NV E sz l y ws rm mc ms [.ref (sz + n)] k (n + 1) (mix F k n) n') (hG : GoodIn Ts ws) (hw : ws = Cond.code y bytes maxL none :: ws') (hrc : rm.cells = mc) (hrs : rm.slots = ms) (hnest : (own, index, y) ∈ nNest) (hini : (Cond.initialized y.cls).before args s = true) (hins : (Cond.instanceMethod y).before args s = true) (hy1 : y.name = "<init>") (hd : y.cls ≠ "java/lang/invoke/MethodHandle" ∧ y.cls ≠ "java/lang/invoke/VarHandle" ∧ (parseMethodDescriptor y.desc).map (fun d => d.parameters.length) = some 0) (hR : rm.frames + 1 ≤ R.frames ∧ 8 + (maxL + 11) + rm.locals ≤ R.locals) (hls : ls.size = nL) (hroom : (rest.map fun v => v.category).sum ≤ 8) (hf : cells + mc ≤ R.cells ∧ slots + ms ≤ R.slots) (hdg : decode cc pc = .ok (.invokespecial index, 3))
    (kk : ∀ (H1 : Heap) (locs1 : List Loc), nS E sz F cn w ci fs x X n' s H1 locs1 → W p l e R s m args below meth c H1 locs1 (cells + mc) (slots + ms) Q (F0 m (pc + 3) ls rest)) : W p l e R s m args below meth c H locs cells slots Q (F0 m pc ls (.ref (sz + n) :: rest)) := by
  obtain ⟨k, hF, hM⟩ := hM
  exact n_callN C hM hn (Nat.succ_pos _) (K _ (cu_s _ _ _)) hG hw hrc hrs hnest hini hins hy1 hd hR hls rfl hroom hf hdg (fun H1 locs1 hM1 => kk H1 locs1 ⟨_, nF_mix hF hwn hx, hM1⟩)
theorem s_callI (C : nC E sz n0 p s m args meth c cc nL Ts own) {Y : va_E} (hM : nT E sz F cn w ci fs x X n Y s H locs) (hn : n + 1 = n0 + cells) (hwn : w < n) {index maxL mc ms n' : Nat} (hx : x < n ∨ n' ≤ x) {y : MethodName} {bytes : ByteArray} {ws ws' : List Cond} {rm : Room} (K : ∀ k : Nat → va_E, k n = Y → NV E sz l y ws rm mc ms [.ref (sz + n)] k (n + 1) (mix F k n) n') (hG : GoodIn Ts ws) (hw : ws = Cond.code y bytes maxL none :: ws') (hrc : rm.cells = mc) (hrs : rm.slots = ms) (hl : (Cond.methodLink own index y).before args s = true) (hini : (Cond.initialized y.cls).before args s = true) (hins : (Cond.instanceMethod y).before args s = true) (hy1 : y.name = "<init>") (hd : y.cls ≠ "java/lang/invoke/MethodHandle" ∧ y.cls ≠ "java/lang/invoke/VarHandle" ∧ (parseMethodDescriptor y.desc).map (fun d => d.parameters.length) = some 0) (hR : rm.frames + 1 ≤ R.frames ∧ 8 + (maxL + 11) + rm.locals ≤ R.locals) (hls : ls.size = nL) (hroom : (rest.map fun v => v.category).sum ≤ 8) (hf : cells + mc ≤ R.cells ∧ slots + ms ≤ R.slots) (hdg : decode cc pc = .ok (.invokespecial index, 3))
    (kk : ∀ (H1 : Heap) (locs1 : List Loc), nS E sz F cn w ci fs x X n' s H1 locs1 → W p l e R s m args below meth c H1 locs1 (cells + mc) (slots + ms) Q (F0 m (pc + 3) ls rest)) : W p l e R s m args below meth c H locs cells slots Q (F0 m pc ls (.ref (sz + n) :: rest)) := by
  obtain ⟨k, hF, hM⟩ := hM
  exact n_callI C hM hn (Nat.succ_pos _) (K _ (cu_s _ _ _)) hG hw hrc hrs hl hini hins hy1 hd hR hls rfl hroom hf hdg (fun H1 locs1 hM1 => kk H1 locs1 ⟨_, nF_mix hF hwn hx, hM1⟩)
theorem s_get (C : nC E sz n0 p s m args meth c cc nL Ts own) (hM : nS E sz F cn w ci fs x X n s H locs) (hwn : w < n) {N index k : Nat} {ref Cn : String} {T : u_T} {v : Value} (hc : vwCl[ci]? = some (Cn, T, N)) (hin : ∀ w ∈ u_ws Cn T N, w ∈ Ts) (hk : k < N) (hlink : (Cond.fieldLink own index ref (T k).2.1 (T k).2.2.1).before args s = true) (hsame : (T k).1 = ref) (hv : fs[k]? = some v) (hdg : decode cc pc = .ok (.getfield index, 3))
    (kk : W p l e R s m args below meth c H locs cells slots Q (F0 m (pc + 3) ls (v :: rest))) : W p l e R s m args below meth c H locs cells slots Q (F0 m pc ls (.ref (sz + w) :: rest)) := by
  obtain ⟨k, hF, hM⟩ := hM
  exact n_get C hM hF.2.1 hwn hc hin hk hlink hsame hv hdg kk
theorem s_put (C : nC E sz n0 p s m args meth c cc nL Ts own) (hM : nS E sz F cn w ci fs x X n s H locs) (hwn : w < n) {N index k : Nat} {ref Cn : String} {T : u_T} {v : Value} {ty : FieldType} (hc : vwCl[ci]? = some (Cn, T, N)) (hin : ∀ w ∈ u_ws Cn T N, w ∈ Ts) (ty0 : Nat → FieldType) (hty : ∀ k, k < N → parseFieldDescriptor (T k).2.2.1 = some (ty0 k)) (hnm : ∀ a, a < N → ∀ b, b < N → a ≠ b → (T a).2.1 ≠ (T b).2.1) (hk : k < N) (hlink : (Cond.fieldLink own index ref (T k).2.1 (T k).2.2.1).before args s = true) (hsame : (T k).1 = ref) (hfin : (T k).2.2.2 = false) (hd : parseFieldDescriptor (T k).2.2.1 = some ty) (hnr : narrow ty v = v) (hfit : fits ty v = true) (hl : k < fs.length) {fs' : List Value} (hset : fs.set k v = fs') (hdg : decode cc pc = .ok (.putfield index, 3))
    (kk : ∀ (H1 : Heap) (locs1 : List Loc), nS E sz F cn w ci fs' x X n s H1 locs1 → W p l e R s m args below meth c H1 locs1 cells slots Q (F0 m (pc + 3) ls rest)) : W p l e R s m args below meth c H locs cells slots Q (F0 m pc ls (v :: .ref (sz + w) :: rest)) := by
  subst hset
  obtain ⟨k, hF, hM⟩ := hM
  exact n_put C hM hF.2.1 hwn hc hin ty0 hty hnm hk hlink hsame hfin hd hnr hfit hl hdg (fun H1 locs1 hM1 => kk H1 locs1 ⟨_, nF_set hF, hM1⟩)
theorem s_putF (C : nC E sz n0 p s m args meth c cc nL Ts own) (hM : nS E sz F cn w ci fs x X n s H locs) (hwn : w < n) {N index k : Nat} {ref Cn : String} {T : u_T} {v : Value} {ty : FieldType} (hc : vwCl[ci]? = some (Cn, T, N)) (hin : ∀ w ∈ u_ws Cn T N, w ∈ Ts) (ty0 : Nat → FieldType) (hty : ∀ k, k < N → parseFieldDescriptor (T k).2.2.1 = some (ty0 k)) (hnm : ∀ a, a < N → ∀ b, b < N → a ≠ b → (T a).2.1 ≠ (T b).2.1) (hk : k < N) (hlink : (Cond.fieldLink own index ref (T k).2.1 (T k).2.2.1).before args s = true) (hsame : (T k).1 = ref) (hfin : (T k).2.2.2 = true) (hdecl : (T k).1 = own) (hd : parseFieldDescriptor (T k).2.2.1 = some ty) (hnr : narrow ty v = v) (hfit : fits ty v = true) (hl : k < fs.length) {fs' : List Value} (hset : fs.set k v = fs') (hdg : decode cc pc = .ok (.putfield index, 3))
    (kk : ∀ (H1 : Heap) (locs1 : List Loc), nS E sz F cn w ci fs' x X n s H1 locs1 → W p l e R s m args below meth c H1 locs1 cells slots Q (F0 m (pc + 3) ls rest)) : W p l e R s m args below meth c H locs cells slots Q (F0 m pc ls (v :: .ref (sz + w) :: rest)) := by
  subst hset
  obtain ⟨k, hF, hM⟩ := hM
  exact n_putF C hM hF.2.1 hwn hc hin ty0 hty hnm hk hlink hsame hfin hdecl hd hnr hfit hl hdg (fun H1 locs1 hM1 => kk H1 locs1 ⟨_, nF_set hF, hM1⟩)
theorem s_newq (C : nC E sz n0 p s m args meth c cc nL Ts own) (hM : nS E sz F cn w ci fs n X n s H locs) (hn : n = n0 + cells) (hwn : w < n) {Cn : String} {index k : Nat} {cR : ClassId} (hk : (qT E)[k]? = some (cR, .object Cn)) (hcl : (Cond.classLink own index Cn).before args s = true) (hov : va_AO Cn s) {v : Int32} {L : Nat} (hv : ¬ v < 0) (hL : v.toNatClampNeg = L) (hb : L * 4 ≤ 536870912) (hcells : cells + 1 ≤ R.cells) (hslots : slots + L ≤ R.slots) (hdg : decode cc pc = .ok (.anewarray index, 3))
    (kk : ∀ H1 : Heap, nS E sz F cn w ci fs n (.inl (cR, L, .inr (.inr (.inr (.inr (fun _ => none)))))) (n + 1) s H1 locs → W p l e R s m args below meth c H1 locs (cells + 1) (slots + L) Q (F0 m (pc + 3) ls (.ref (sz + n) :: rest))) : W p l e R s m args below meth c H locs cells slots Q (F0 m pc ls (.int v :: rest)) := by
  obtain ⟨k, hF, hM⟩ := hM
  exact n_newq C hM hn hk hcl hov hv hL hb hcells hslots hdg (fun H1 hM1 => kk H1 ⟨_, nF_x hF hwn, hM1⟩)
theorem s_aast (C : nC E sz n0 p s m args meth c cc nL Ts own) {v cj L t0 : Nat} {cR : ClassId} {r : vw_C} {vs : List Value} {f : Nat → Option Nat} (hM : nS E sz F cn w ci fs x (.inl (cR, L, .inr (.inr (.inr (.inr f))))) n s H locs) (hwx : w < x) (hxn : x < n) (ht : (qT E)[t0]? = some (cR, .object r.1)) (hv : F v = .inr (cj, vs)) (hxv : x < v) (hvN : v < n) (hc : vwCl[cj]? = some r) {i : Int32} (hin : vp_in i L) (hdg : decode cc pc = .ok (.aastore, 1))
    (kk : ∀ (H1 : Heap) (locs1 : List Loc), nS E sz F cn w ci fs x (.inl (cR, L, .inr (.inr (.inr (.inr (va_up f i.toNatClampNeg (some (sz + v)))))))) n s H1 locs1 → W p l e R s m args below meth c H1 locs1 cells slots Q (F0 m (pc + 1) ls rest)) : W p l e R s m args below meth c H locs cells slots Q (F0 m pc ls (.ref (sz + v) :: .int i :: .ref (sz + x) :: rest)) := by
  obtain ⟨k, hF, hM⟩ := hM
  exact n_aast C hM (hF.2.2.2 hwx hxn) hxn ht ((hF.2.2.1 v (by omega) hvN (by omega)).trans hv) hvN hc hin hdg (fun H1 locs1 hM1 => kk H1 locs1 ⟨_, nF_up hF hwx, hM1⟩)
theorem s_row {L : Nat} {cR : ClassId} {f g : Nat → Option Nat} (hM : nS E sz F cn w ci fs x (.inl (cR, L, .inr (.inr (.inr (.inr f))))) n s H locs) (hwx : w < x) (hxn : x < n) (h : ∀ j, j < L → f j = g j) : nS E sz F cn w ci fs x (.inl (cR, L, .inr (.inr (.inr (.inr g))))) n s H locs := by
  obtain ⟨k, hF, hM⟩ := hM
  exact ⟨_, nF_up hF hwx, nM_row hM (hF.2.2.2 hwx hxn) h⟩
/-- all is as it stays -/
theorem nS_end (hM : nS E sz F cn w ci fs x X n s H locs) (he : F w = .inr (ci, fs)) (hx : w < x → x < n → F x = X) : nM E sz (mix F cn w) n s H locs := by
  obtain ⟨k, hF, hM⟩ := hM
  refine nM_cg hM (fun i hi => ?_)
  unfold mix
  by_cases h : i < w
  · rw [if_pos h]; exact hF.1 i h
  · rw [if_neg h]
    by_cases h2 : i = w
    · subst h2; rw [hF.2.1, he]
    · by_cases h3 : i = x
      · subst h3; rw [hF.2.2.2 (by omega) hi, hx (by omega) hi]
      · exact hF.2.2.1 i (by omega) hi h3
theorem s_vret (C : nC E sz n0 p s m args meth c cc nL Ts own) (hM : nS E sz F cn w ci fs x X n s H locs) (he : F w = .inr (ci, fs)) (hx : w < x → x < n → F x = X) (hdg : decode cc pc = .ok (.return_, 1)) : W p l e R s m args below meth c H locs cells slots (MQ below (nQ E sz (mix F cn w) n) args s cells slots (nAr sz)) (F0 m pc ls []) := n_vret C (nS_end hM he hx) (fun _ _ => rfl) hdg
end NG
