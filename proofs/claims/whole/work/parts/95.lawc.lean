/-! the law: each call, on both sides -/
set_option maxHeartbeats 4000000 in
set_option maxRecDepth 100000 in
theorem lc_feed {p : Program} {l : Launch} {e : Env} {s : State} {m : MethodId} {bs : Nat} {below : List Frame} {meth : Method} {c : Code} {H : Heap} {locs : List Loc} {cells slots : Nat} {Q : State → Prop} {ls : Array Slot} {E : qE} {ad : Nat → Nat} {S A : qA2} {b : qB} {L i : Nat} {xs : Nat → Int32} (C : qC E p s m #[Value.ref bs] meth c cL_law 4 wsL_law RL (some .boolean)) (hM : qM E ad S A b (nAr s.heap.size) s H locs) (hR : Rel S A b) (hX : va_X bs L xs s s.heap) (hbl : bs < s.heap.size) (hi : i + 4 ≤ L) (hL : L ≤ 2048) (hc : cells ≤ 600000 ∧ slots ≤ 7302250) (hl : lv_has ls 4 [(3, .int (nI i)), (2, .ref (ad 188)), (1, .ref (ad 0)), (0, .ref bs)])
    (kk : ∀ (S' A' : qA2) (b' : qB) (H1 : Heap) (locs1 : List Loc), qM E ad S' A' b' (nAr s.heap.size) s H1 locs1 → Rel S' A' b' → W p l e room_1 s m #[Value.ref bs] below meth c H1 locs1 cells slots Q (F0 m 1008 ls [])) : W p l e room_1 s m #[Value.ref bs] below meth c H locs cells slots Q (F0 m 176 ls []) := by
  have hx := C.1
  have hb := C.2.1
  have hbA : ¬ nAr s.heap.size bs := Nat.not_le.mpr hbl
  have hA : ∀ q, s.heap.size ≤ q → nAr s.heap.size q := fun _ h => h
  refine lv_aload_n hx hb dL_law_176 rfl (lv_at hl 2 rfl) ?_
  refine lv_aload_n hx hb dL_law_177 rfl (lv_at hl 3 rfl) ?_
  refine lv_iload_n hx hb dL_law_178 rfl (lv_at hl 0 rfl) ?_
  refine lv_iconst (v := 1) hx hb dL_law_179 (by decide) ?_
  refine lv_iadd hx hb dL_law_180 ?_
  refine lv_as (show nI i + 1 = nI (i + 1) from nI_add i 1) ?_
  refine va_sld hx hb hX hbl hbA hM.2.2 (vp_in_nI (by omega) (by omega)) dL_law_181 ?_
  refine lv_as (show xs (nI (i + 1)).toNatClampNeg = xs (i + 1) by rw [nI_clamp (by omega)]) ?_
  obtain ⟨post, K1, h1⟩ := st_feed E ad l hR (xs (i + 1))
  refine q_callVI (n := 1) (o := 0) (As := [.int (xs (i + 1))]) (rest := []) C hM hA K1 (qmem_10 E ad S A b (by decide +kernel)) (by decide) rfl gL_law_X10_feed rfl rfl rfl (by decide +kernel) ⟨(Nat.le_of_ble_eq_true rfl), (Nat.le_of_ble_eq_true rfl)⟩ rfl hl.1 rfl (Nat.le_of_ble_eq_true rfl) ⟨hc.1, hc.2⟩ dL_law_182 (fun r S1 A1 b1 H locs hp hM => ?_)
  obtain ⟨post2, K2, h2⟩ := h1 r S1 A1 b1 hp
  refine lv_aload_n hx hb dL_law_185 rfl (lv_at hl 1 rfl) ?_
  refine lv_aload_n hx hb dL_law_186 rfl (lv_at hl 3 rfl) ?_
  refine lv_iload_n hx hb dL_law_187 rfl (lv_at hl 0 rfl) ?_
  refine lv_iconst (v := 1) hx hb dL_law_188 (by decide) ?_
  refine lv_iadd hx hb dL_law_189 ?_
  refine lv_as (show nI i + 1 = nI (i + 1) from nI_add i 1) ?_
  refine va_sld hx hb hX hbl hbA hM.2.2 (vp_in_nI (by omega) (by omega)) dL_law_190 ?_
  refine lv_as (show xs (nI (i + 1)).toNatClampNeg = xs (i + 1) by rw [nI_clamp (by omega)]) ?_
  refine q_callVI (n := 1) (o := 188) (As := [.int (xs (i + 1))]) (rest := [.int r]) C hM hA K2 (qmem_11 E ad S1 A1 b1 (by decide +kernel)) (by decide) rfl gL_law_X11_feed rfl rfl rfl (by decide +kernel) ⟨(Nat.le_of_ble_eq_true rfl), (Nat.le_of_ble_eq_true rfl)⟩ rfl hl.1 rfl (Nat.le_of_ble_eq_true rfl) ⟨hc.1, hc.2⟩ dL_law_191 (fun r2 S2 A2 b2 H locs hp2 hM => ?_)
  obtain ⟨er, hR2⟩ := h2 r2 S2 A2 b2 hp2
  exact lv_icmp_eq (tgt := 1008) hx hb dL_law_194 (by decide) (fun _ => kk S2 A2 b2 H locs hM hR2) (fun z => absurd er z)
set_option maxHeartbeats 4000000 in
set_option maxRecDepth 100000 in
theorem lc_plateau {p : Program} {l : Launch} {e : Env} {s : State} {m : MethodId} {bs : Nat} {below : List Frame} {meth : Method} {c : Code} {H : Heap} {locs : List Loc} {cells slots : Nat} {Q : State → Prop} {ls : Array Slot} {E : qE} {ad : Nat → Nat} {S A : qA2} {b : qB} {L i : Nat} {xs : Nat → Int32} (C : qC E p s m #[Value.ref bs] meth c cL_law 4 wsL_law RL (some .boolean)) (hM : qM E ad S A b (nAr s.heap.size) s H locs) (hR : Rel S A b) (hX : va_X bs L xs s s.heap) (hbl : bs < s.heap.size) (hi : i + 4 ≤ L) (hL : L ≤ 2048) (hc : cells ≤ 600000 ∧ slots ≤ 7302250) (hl : lv_has ls 4 [(3, .int (nI i)), (2, .ref (ad 188)), (1, .ref (ad 0)), (0, .ref bs)])
    (kk : ∀ (S' A' : qA2) (b' : qB) (H1 : Heap) (locs1 : List Loc), qM E ad S' A' b' (nAr s.heap.size) s H1 locs1 → Rel S' A' b' → W p l e room_1 s m #[Value.ref bs] below meth c H1 locs1 cells slots Q (F0 m 1008 ls [])) : W p l e room_1 s m #[Value.ref bs] below meth c H locs cells slots Q (F0 m 199 ls []) := by
  have hx := C.1
  have hb := C.2.1
  have hbA : ¬ nAr s.heap.size bs := Nat.not_le.mpr hbl
  have hA : ∀ q, s.heap.size ≤ q → nAr s.heap.size q := fun _ h => h
  refine lv_aload_n hx hb dL_law_199 rfl (lv_at hl 2 rfl) ?_
  obtain ⟨post, K1, h1⟩ := st_plateau E ad l hR 
  refine q_callVI (n := 0) (o := 0) (As := []) (rest := []) C hM hA K1 (qmem_10 E ad S A b (by decide +kernel)) (by decide) rfl gL_law_X10_plateau rfl rfl rfl (by decide +kernel) ⟨(Nat.le_of_ble_eq_true rfl), (Nat.le_of_ble_eq_true rfl)⟩ rfl hl.1 rfl (Nat.le_of_ble_eq_true rfl) ⟨hc.1, hc.2⟩ dL_law_200 (fun r S1 A1 b1 H locs hp hM => ?_)
  obtain ⟨post2, K2, h2⟩ := h1 r S1 A1 b1 hp
  refine lv_aload_n hx hb dL_law_203 rfl (lv_at hl 1 rfl) ?_
  refine q_callVI (n := 0) (o := 188) (As := []) (rest := [.int r]) C hM hA K2 (qmem_11 E ad S1 A1 b1 (by decide +kernel)) (by decide) rfl gL_law_X11_plateau rfl rfl rfl (by decide +kernel) ⟨(Nat.le_of_ble_eq_true rfl), (Nat.le_of_ble_eq_true rfl)⟩ rfl hl.1 rfl (Nat.le_of_ble_eq_true rfl) ⟨hc.1, hc.2⟩ dL_law_204 (fun r2 S2 A2 b2 H locs hp2 hM => ?_)
  obtain ⟨er, hR2⟩ := h2 r2 S2 A2 b2 hp2
  exact lv_icmp_eq (tgt := 1008) hx hb dL_law_207 (by decide) (fun _ => kk S2 A2 b2 H locs hM hR2) (fun z => absurd er z)
set_option maxHeartbeats 4000000 in
set_option maxRecDepth 100000 in
theorem lc_fault {p : Program} {l : Launch} {e : Env} {s : State} {m : MethodId} {bs : Nat} {below : List Frame} {meth : Method} {c : Code} {H : Heap} {locs : List Loc} {cells slots : Nat} {Q : State → Prop} {ls : Array Slot} {E : qE} {ad : Nat → Nat} {S A : qA2} {b : qB} {L i : Nat} {xs : Nat → Int32} (C : qC E p s m #[Value.ref bs] meth c cL_law 4 wsL_law RL (some .boolean)) (hM : qM E ad S A b (nAr s.heap.size) s H locs) (hR : Rel S A b) (hX : va_X bs L xs s s.heap) (hbl : bs < s.heap.size) (hi : i + 4 ≤ L) (hL : L ≤ 2048) (hc : cells ≤ 600000 ∧ slots ≤ 7302250) (hl : lv_has ls 4 [(3, .int (nI i)), (2, .ref (ad 188)), (1, .ref (ad 0)), (0, .ref bs)])
    (kk : ∀ (S' A' : qA2) (b' : qB) (H1 : Heap) (locs1 : List Loc), qM E ad S' A' b' (nAr s.heap.size) s H1 locs1 → Rel S' A' b' → W p l e room_1 s m #[Value.ref bs] below meth c H1 locs1 cells slots Q (F0 m 1008 ls [])) : W p l e room_1 s m #[Value.ref bs] below meth c H locs cells slots Q (F0 m 212 ls []) := by
  have hx := C.1
  have hb := C.2.1
  have hbA : ¬ nAr s.heap.size bs := Nat.not_le.mpr hbl
  have hA : ∀ q, s.heap.size ≤ q → nAr s.heap.size q := fun _ h => h
  refine lv_aload_n hx hb dL_law_212 rfl (lv_at hl 2 rfl) ?_
  obtain ⟨post, K1, h1⟩ := st_fault E ad l hR 
  refine q_callVI (n := 0) (o := 0) (As := []) (rest := []) C hM hA K1 (qmem_10 E ad S A b (by decide +kernel)) (by decide) rfl gL_law_X10_fault rfl rfl rfl (by decide +kernel) ⟨(Nat.le_of_ble_eq_true rfl), (Nat.le_of_ble_eq_true rfl)⟩ rfl hl.1 rfl (Nat.le_of_ble_eq_true rfl) ⟨hc.1, hc.2⟩ dL_law_213 (fun r S1 A1 b1 H locs hp hM => ?_)
  obtain ⟨post2, K2, h2⟩ := h1 r S1 A1 b1 hp
  refine lv_aload_n hx hb dL_law_216 rfl (lv_at hl 1 rfl) ?_
  refine q_callVI (n := 0) (o := 188) (As := []) (rest := [.int r]) C hM hA K2 (qmem_11 E ad S1 A1 b1 (by decide +kernel)) (by decide) rfl gL_law_X11_fault rfl rfl rfl (by decide +kernel) ⟨(Nat.le_of_ble_eq_true rfl), (Nat.le_of_ble_eq_true rfl)⟩ rfl hl.1 rfl (Nat.le_of_ble_eq_true rfl) ⟨hc.1, hc.2⟩ dL_law_217 (fun r2 S2 A2 b2 H locs hp2 hM => ?_)
  obtain ⟨er, hR2⟩ := h2 r2 S2 A2 b2 hp2
  exact lv_icmp_eq (tgt := 1008) hx hb dL_law_220 (by decide) (fun _ => kk S2 A2 b2 H locs hM hR2) (fun z => absurd er z)
set_option maxHeartbeats 4000000 in
set_option maxRecDepth 100000 in
theorem lc_told {p : Program} {l : Launch} {e : Env} {s : State} {m : MethodId} {bs : Nat} {below : List Frame} {meth : Method} {c : Code} {H : Heap} {locs : List Loc} {cells slots : Nat} {Q : State → Prop} {ls : Array Slot} {E : qE} {ad : Nat → Nat} {S A : qA2} {b : qB} {L i : Nat} {xs : Nat → Int32} (C : qC E p s m #[Value.ref bs] meth c cL_law 4 wsL_law RL (some .boolean)) (hM : qM E ad S A b (nAr s.heap.size) s H locs) (hR : Rel S A b) (hX : va_X bs L xs s s.heap) (hbl : bs < s.heap.size) (hi : i + 4 ≤ L) (hL : L ≤ 2048) (hc : cells ≤ 600000 ∧ slots ≤ 7302250) (hl : lv_has ls 4 [(3, .int (nI i)), (2, .ref (ad 188)), (1, .ref (ad 0)), (0, .ref bs)])
    (kk : ∀ (S' A' : qA2) (b' : qB) (H1 : Heap) (locs1 : List Loc), qM E ad S' A' b' (nAr s.heap.size) s H1 locs1 → Rel S' A' b' → W p l e room_1 s m #[Value.ref bs] below meth c H1 locs1 cells slots Q (F0 m 1008 ls [])) : W p l e room_1 s m #[Value.ref bs] below meth c H locs cells slots Q (F0 m 225 ls []) := by
  have hx := C.1
  have hb := C.2.1
  have hbA : ¬ nAr s.heap.size bs := Nat.not_le.mpr hbl
  have hA : ∀ q, s.heap.size ≤ q → nAr s.heap.size q := fun _ h => h
  refine lv_aload_n hx hb dL_law_225 rfl (lv_at hl 2 rfl) ?_
  refine lv_aload_n hx hb dL_law_226 rfl (lv_at hl 3 rfl) ?_
  refine lv_iload_n hx hb dL_law_227 rfl (lv_at hl 0 rfl) ?_
  refine lv_iconst (v := 1) hx hb dL_law_228 (by decide) ?_
  refine lv_iadd hx hb dL_law_229 ?_
  refine lv_as (show nI i + 1 = nI (i + 1) from nI_add i 1) ?_
  refine va_sld hx hb hX hbl hbA hM.2.2 (vp_in_nI (by omega) (by omega)) dL_law_230 ?_
  refine lv_as (show xs (nI (i + 1)).toNatClampNeg = xs (i + 1) by rw [nI_clamp (by omega)]) ?_
  obtain ⟨post, K1, h1⟩ := st_told E ad l hR (xs (i + 1))
  refine q_callVI (n := 1) (o := 0) (As := [.int (xs (i + 1))]) (rest := []) C hM hA K1 (qmem_10 E ad S A b (by decide +kernel)) (by decide) rfl gL_law_X10_told rfl rfl rfl (by decide +kernel) ⟨(Nat.le_of_ble_eq_true rfl), (Nat.le_of_ble_eq_true rfl)⟩ rfl hl.1 rfl (Nat.le_of_ble_eq_true rfl) ⟨hc.1, hc.2⟩ dL_law_231 (fun r S1 A1 b1 H locs hp hM => ?_)
  obtain ⟨post2, K2, h2⟩ := h1 r S1 A1 b1 hp
  refine lv_aload_n hx hb dL_law_234 rfl (lv_at hl 1 rfl) ?_
  refine lv_aload_n hx hb dL_law_235 rfl (lv_at hl 3 rfl) ?_
  refine lv_iload_n hx hb dL_law_236 rfl (lv_at hl 0 rfl) ?_
  refine lv_iconst (v := 1) hx hb dL_law_237 (by decide) ?_
  refine lv_iadd hx hb dL_law_238 ?_
  refine lv_as (show nI i + 1 = nI (i + 1) from nI_add i 1) ?_
  refine va_sld hx hb hX hbl hbA hM.2.2 (vp_in_nI (by omega) (by omega)) dL_law_239 ?_
  refine lv_as (show xs (nI (i + 1)).toNatClampNeg = xs (i + 1) by rw [nI_clamp (by omega)]) ?_
  refine q_callVI (n := 1) (o := 188) (As := [.int (xs (i + 1))]) (rest := [.int r]) C hM hA K2 (qmem_11 E ad S1 A1 b1 (by decide +kernel)) (by decide) rfl gL_law_X11_told rfl rfl rfl (by decide +kernel) ⟨(Nat.le_of_ble_eq_true rfl), (Nat.le_of_ble_eq_true rfl)⟩ rfl hl.1 rfl (Nat.le_of_ble_eq_true rfl) ⟨hc.1, hc.2⟩ dL_law_240 (fun r2 S2 A2 b2 H locs hp2 hM => ?_)
  obtain ⟨er, hR2⟩ := h2 r2 S2 A2 b2 hp2
  exact lv_icmp_eq (tgt := 1008) hx hb dL_law_243 (by decide) (fun _ => kk S2 A2 b2 H locs hM hR2) (fun z => absurd er z)
set_option maxHeartbeats 4000000 in
set_option maxRecDepth 100000 in
theorem lc_snow {p : Program} {l : Launch} {e : Env} {s : State} {m : MethodId} {bs : Nat} {below : List Frame} {meth : Method} {c : Code} {H : Heap} {locs : List Loc} {cells slots : Nat} {Q : State → Prop} {ls : Array Slot} {E : qE} {ad : Nat → Nat} {S A : qA2} {b : qB} {L i : Nat} {xs : Nat → Int32} (C : qC E p s m #[Value.ref bs] meth c cL_law 4 wsL_law RL (some .boolean)) (hM : qM E ad S A b (nAr s.heap.size) s H locs) (hR : Rel S A b) (hX : va_X bs L xs s s.heap) (hbl : bs < s.heap.size) (hi : i + 4 ≤ L) (hL : L ≤ 2048) (hc : cells ≤ 600000 ∧ slots ≤ 7302250) (hl : lv_has ls 4 [(3, .int (nI i)), (2, .ref (ad 188)), (1, .ref (ad 0)), (0, .ref bs)])
    (kk : ∀ (S' A' : qA2) (b' : qB) (H1 : Heap) (locs1 : List Loc), qM E ad S' A' b' (nAr s.heap.size) s H1 locs1 → Rel S' A' b' → W p l e room_1 s m #[Value.ref bs] below meth c H1 locs1 cells slots Q (F0 m 1008 ls [])) : W p l e room_1 s m #[Value.ref bs] below meth c H locs cells slots Q (F0 m 248 ls []) := by
  have hx := C.1
  have hb := C.2.1
  have hbA : ¬ nAr s.heap.size bs := Nat.not_le.mpr hbl
  have hA : ∀ q, s.heap.size ≤ q → nAr s.heap.size q := fun _ h => h
  refine lv_aload_n hx hb dL_law_248 rfl (lv_at hl 2 rfl) ?_
  refine lv_aload_n hx hb dL_law_249 rfl (lv_at hl 3 rfl) ?_
  refine lv_iload_n hx hb dL_law_250 rfl (lv_at hl 0 rfl) ?_
  refine lv_iconst (v := 1) hx hb dL_law_251 (by decide) ?_
  refine lv_iadd hx hb dL_law_252 ?_
  refine lv_as (show nI i + 1 = nI (i + 1) from nI_add i 1) ?_
  refine va_sld hx hb hX hbl hbA hM.2.2 (vp_in_nI (by omega) (by omega)) dL_law_253 ?_
  refine lv_as (show xs (nI (i + 1)).toNatClampNeg = xs (i + 1) by rw [nI_clamp (by omega)]) ?_
  obtain ⟨post, K1, h1⟩ := st_snow E ad l hR (xs (i + 1))
  refine q_callVI (n := 1) (o := 0) (As := [.int (xs (i + 1))]) (rest := []) C hM hA K1 (qmem_10 E ad S A b (by decide +kernel)) (by decide) rfl gL_law_X10_snow rfl rfl rfl (by decide +kernel) ⟨(Nat.le_of_ble_eq_true rfl), (Nat.le_of_ble_eq_true rfl)⟩ rfl hl.1 rfl (Nat.le_of_ble_eq_true rfl) ⟨hc.1, hc.2⟩ dL_law_254 (fun r S1 A1 b1 H locs hp hM => ?_)
  obtain ⟨post2, K2, h2⟩ := h1 r S1 A1 b1 hp
  refine lv_aload_n hx hb dL_law_257 rfl (lv_at hl 1 rfl) ?_
  refine lv_aload_n hx hb dL_law_258 rfl (lv_at hl 3 rfl) ?_
  refine lv_iload_n hx hb dL_law_259 rfl (lv_at hl 0 rfl) ?_
  refine lv_iconst (v := 1) hx hb dL_law_260 (by decide) ?_
  refine lv_iadd hx hb dL_law_261 ?_
  refine lv_as (show nI i + 1 = nI (i + 1) from nI_add i 1) ?_
  refine va_sld hx hb hX hbl hbA hM.2.2 (vp_in_nI (by omega) (by omega)) dL_law_262 ?_
  refine lv_as (show xs (nI (i + 1)).toNatClampNeg = xs (i + 1) by rw [nI_clamp (by omega)]) ?_
  refine q_callVI (n := 1) (o := 188) (As := [.int (xs (i + 1))]) (rest := [.int r]) C hM hA K2 (qmem_11 E ad S1 A1 b1 (by decide +kernel)) (by decide) rfl gL_law_X11_snow rfl rfl rfl (by decide +kernel) ⟨(Nat.le_of_ble_eq_true rfl), (Nat.le_of_ble_eq_true rfl)⟩ rfl hl.1 rfl (Nat.le_of_ble_eq_true rfl) ⟨hc.1, hc.2⟩ dL_law_263 (fun r2 S2 A2 b2 H locs hp2 hM => ?_)
  obtain ⟨er, hR2⟩ := h2 r2 S2 A2 b2 hp2
  exact lv_icmp_eq (tgt := 1008) hx hb dL_law_266 (by decide) (fun _ => kk S2 A2 b2 H locs hM hR2) (fun z => absurd er z)
set_option maxHeartbeats 4000000 in
set_option maxRecDepth 100000 in
theorem lc_post {p : Program} {l : Launch} {e : Env} {s : State} {m : MethodId} {bs : Nat} {below : List Frame} {meth : Method} {c : Code} {H : Heap} {locs : List Loc} {cells slots : Nat} {Q : State → Prop} {ls : Array Slot} {E : qE} {ad : Nat → Nat} {S A : qA2} {b : qB} {L i : Nat} {xs : Nat → Int32} (C : qC E p s m #[Value.ref bs] meth c cL_law 4 wsL_law RL (some .boolean)) (hM : qM E ad S A b (nAr s.heap.size) s H locs) (hR : Rel S A b) (hX : va_X bs L xs s s.heap) (hbl : bs < s.heap.size) (hi : i + 4 ≤ L) (hL : L ≤ 2048) (hc : cells ≤ 600000 ∧ slots ≤ 7302250) (hl : lv_has ls 4 [(3, .int (nI i)), (2, .ref (ad 188)), (1, .ref (ad 0)), (0, .ref bs)])
    (kk : ∀ (S' A' : qA2) (b' : qB) (H1 : Heap) (locs1 : List Loc), qM E ad S' A' b' (nAr s.heap.size) s H1 locs1 → Rel S' A' b' → W p l e room_1 s m #[Value.ref bs] below meth c H1 locs1 cells slots Q (F0 m 1008 ls [])) : W p l e room_1 s m #[Value.ref bs] below meth c H locs cells slots Q (F0 m 271 ls []) := by
  have hx := C.1
  have hb := C.2.1
  have hbA : ¬ nAr s.heap.size bs := Nat.not_le.mpr hbl
  have hA : ∀ q, s.heap.size ≤ q → nAr s.heap.size q := fun _ h => h
  refine lv_aload_n hx hb dL_law_271 rfl (lv_at hl 2 rfl) ?_
  refine lv_aload_n hx hb dL_law_272 rfl (lv_at hl 3 rfl) ?_
  refine lv_iload_n hx hb dL_law_273 rfl (lv_at hl 0 rfl) ?_
  refine lv_iconst (v := 1) hx hb dL_law_274 (by decide) ?_
  refine lv_iadd hx hb dL_law_275 ?_
  refine lv_as (show nI i + 1 = nI (i + 1) from nI_add i 1) ?_
  refine va_sld hx hb hX hbl hbA hM.2.2 (vp_in_nI (by omega) (by omega)) dL_law_276 ?_
  refine lv_as (show xs (nI (i + 1)).toNatClampNeg = xs (i + 1) by rw [nI_clamp (by omega)]) ?_
  refine lv_aload_n hx hb dL_law_277 rfl (lv_at hl 3 rfl) ?_
  refine lv_iload_n hx hb dL_law_278 rfl (lv_at hl 0 rfl) ?_
  refine lv_iconst (v := 2) hx hb dL_law_279 (by decide) ?_
  refine lv_iadd hx hb dL_law_280 ?_
  refine lv_as (show nI i + 2 = nI (i + 2) from nI_add i 2) ?_
  refine va_sld hx hb hX hbl hbA hM.2.2 (vp_in_nI (by omega) (by omega)) dL_law_281 ?_
  refine lv_as (show xs (nI (i + 2)).toNatClampNeg = xs (i + 2) by rw [nI_clamp (by omega)]) ?_
  obtain ⟨post, K1, h1⟩ := st_post E ad l hR (xs (i + 1)) (xs (i + 2))
  refine q_callVI (n := 2) (o := 0) (As := [.int (xs (i + 1)), .int (xs (i + 2))]) (rest := []) C hM hA K1 (qmem_10 E ad S A b (by decide +kernel)) (by decide) rfl gL_law_X10_post rfl rfl rfl (by decide +kernel) ⟨(Nat.le_of_ble_eq_true rfl), (Nat.le_of_ble_eq_true rfl)⟩ rfl hl.1 rfl (Nat.le_of_ble_eq_true rfl) ⟨hc.1, hc.2⟩ dL_law_282 (fun r S1 A1 b1 H locs hp hM => ?_)
  obtain ⟨post2, K2, h2⟩ := h1 r S1 A1 b1 hp
  refine lv_aload_n hx hb dL_law_285 rfl (lv_at hl 1 rfl) ?_
  refine lv_aload_n hx hb dL_law_286 rfl (lv_at hl 3 rfl) ?_
  refine lv_iload_n hx hb dL_law_287 rfl (lv_at hl 0 rfl) ?_
  refine lv_iconst (v := 1) hx hb dL_law_288 (by decide) ?_
  refine lv_iadd hx hb dL_law_289 ?_
  refine lv_as (show nI i + 1 = nI (i + 1) from nI_add i 1) ?_
  refine va_sld hx hb hX hbl hbA hM.2.2 (vp_in_nI (by omega) (by omega)) dL_law_290 ?_
  refine lv_as (show xs (nI (i + 1)).toNatClampNeg = xs (i + 1) by rw [nI_clamp (by omega)]) ?_
  refine lv_aload_n hx hb dL_law_291 rfl (lv_at hl 3 rfl) ?_
  refine lv_iload_n hx hb dL_law_292 rfl (lv_at hl 0 rfl) ?_
  refine lv_iconst (v := 2) hx hb dL_law_293 (by decide) ?_
  refine lv_iadd hx hb dL_law_294 ?_
  refine lv_as (show nI i + 2 = nI (i + 2) from nI_add i 2) ?_
  refine va_sld hx hb hX hbl hbA hM.2.2 (vp_in_nI (by omega) (by omega)) dL_law_295 ?_
  refine lv_as (show xs (nI (i + 2)).toNatClampNeg = xs (i + 2) by rw [nI_clamp (by omega)]) ?_
  refine q_callVI (n := 2) (o := 188) (As := [.int (xs (i + 1)), .int (xs (i + 2))]) (rest := [.int r]) C hM hA K2 (qmem_11 E ad S1 A1 b1 (by decide +kernel)) (by decide) rfl gL_law_X11_post rfl rfl rfl (by decide +kernel) ⟨(Nat.le_of_ble_eq_true rfl), (Nat.le_of_ble_eq_true rfl)⟩ rfl hl.1 rfl (Nat.le_of_ble_eq_true rfl) ⟨hc.1, hc.2⟩ dL_law_296 (fun r2 S2 A2 b2 H locs hp2 hM => ?_)
  obtain ⟨er, hR2⟩ := h2 r2 S2 A2 b2 hp2
  exact lv_icmp_eq (tgt := 1008) hx hb dL_law_299 (by decide) (fun _ => kk S2 A2 b2 H locs hM hR2) (fun z => absurd er z)
set_option maxHeartbeats 4000000 in
set_option maxRecDepth 100000 in
theorem lc_crow {p : Program} {l : Launch} {e : Env} {s : State} {m : MethodId} {bs : Nat} {below : List Frame} {meth : Method} {c : Code} {H : Heap} {locs : List Loc} {cells slots : Nat} {Q : State → Prop} {ls : Array Slot} {E : qE} {ad : Nat → Nat} {S A : qA2} {b : qB} {L i : Nat} {xs : Nat → Int32} (C : qC E p s m #[Value.ref bs] meth c cL_law 4 wsL_law RL (some .boolean)) (hM : qM E ad S A b (nAr s.heap.size) s H locs) (hR : Rel S A b) (hX : va_X bs L xs s s.heap) (hbl : bs < s.heap.size) (hi : i + 4 ≤ L) (hL : L ≤ 2048) (hc : cells ≤ 600000 ∧ slots ≤ 7302250) (hl : lv_has ls 4 [(3, .int (nI i)), (2, .ref (ad 188)), (1, .ref (ad 0)), (0, .ref bs)])
    (kk : ∀ (S' A' : qA2) (b' : qB) (H1 : Heap) (locs1 : List Loc), qM E ad S' A' b' (nAr s.heap.size) s H1 locs1 → Rel S' A' b' → W p l e room_1 s m #[Value.ref bs] below meth c H1 locs1 cells slots Q (F0 m 1008 ls [])) : W p l e room_1 s m #[Value.ref bs] below meth c H locs cells slots Q (F0 m 304 ls []) := by
  have hx := C.1
  have hb := C.2.1
  have hbA : ¬ nAr s.heap.size bs := Nat.not_le.mpr hbl
  have hA : ∀ q, s.heap.size ≤ q → nAr s.heap.size q := fun _ h => h
  refine lv_aload_n hx hb dL_law_304 rfl (lv_at hl 2 rfl) ?_
  refine lv_aload_n hx hb dL_law_305 rfl (lv_at hl 3 rfl) ?_
  refine lv_iload_n hx hb dL_law_306 rfl (lv_at hl 0 rfl) ?_
  refine lv_iconst (v := 1) hx hb dL_law_307 (by decide) ?_
  refine lv_iadd hx hb dL_law_308 ?_
  refine lv_as (show nI i + 1 = nI (i + 1) from nI_add i 1) ?_
  refine va_sld hx hb hX hbl hbA hM.2.2 (vp_in_nI (by omega) (by omega)) dL_law_309 ?_
  refine lv_as (show xs (nI (i + 1)).toNatClampNeg = xs (i + 1) by rw [nI_clamp (by omega)]) ?_
  refine lv_aload_n hx hb dL_law_310 rfl (lv_at hl 3 rfl) ?_
  refine lv_iload_n hx hb dL_law_311 rfl (lv_at hl 0 rfl) ?_
  refine lv_iconst (v := 2) hx hb dL_law_312 (by decide) ?_
  refine lv_iadd hx hb dL_law_313 ?_
  refine lv_as (show nI i + 2 = nI (i + 2) from nI_add i 2) ?_
  refine va_sld hx hb hX hbl hbA hM.2.2 (vp_in_nI (by omega) (by omega)) dL_law_314 ?_
  refine lv_as (show xs (nI (i + 2)).toNatClampNeg = xs (i + 2) by rw [nI_clamp (by omega)]) ?_
  obtain ⟨post, K1, h1⟩ := st_crow E ad l hR (xs (i + 1)) (xs (i + 2))
  refine q_callVI (n := 2) (o := 0) (As := [.int (xs (i + 1)), .int (xs (i + 2))]) (rest := []) C hM hA K1 (qmem_10 E ad S A b (by decide +kernel)) (by decide) rfl gL_law_X10_crow rfl rfl rfl (by decide +kernel) ⟨(Nat.le_of_ble_eq_true rfl), (Nat.le_of_ble_eq_true rfl)⟩ rfl hl.1 rfl (Nat.le_of_ble_eq_true rfl) ⟨hc.1, hc.2⟩ dL_law_315 (fun r S1 A1 b1 H locs hp hM => ?_)
  obtain ⟨post2, K2, h2⟩ := h1 r S1 A1 b1 hp
  refine lv_aload_n hx hb dL_law_318 rfl (lv_at hl 1 rfl) ?_
  refine lv_aload_n hx hb dL_law_319 rfl (lv_at hl 3 rfl) ?_
  refine lv_iload_n hx hb dL_law_320 rfl (lv_at hl 0 rfl) ?_
  refine lv_iconst (v := 1) hx hb dL_law_321 (by decide) ?_
  refine lv_iadd hx hb dL_law_322 ?_
  refine lv_as (show nI i + 1 = nI (i + 1) from nI_add i 1) ?_
  refine va_sld hx hb hX hbl hbA hM.2.2 (vp_in_nI (by omega) (by omega)) dL_law_323 ?_
  refine lv_as (show xs (nI (i + 1)).toNatClampNeg = xs (i + 1) by rw [nI_clamp (by omega)]) ?_
  refine lv_aload_n hx hb dL_law_324 rfl (lv_at hl 3 rfl) ?_
  refine lv_iload_n hx hb dL_law_325 rfl (lv_at hl 0 rfl) ?_
  refine lv_iconst (v := 2) hx hb dL_law_326 (by decide) ?_
  refine lv_iadd hx hb dL_law_327 ?_
  refine lv_as (show nI i + 2 = nI (i + 2) from nI_add i 2) ?_
  refine va_sld hx hb hX hbl hbA hM.2.2 (vp_in_nI (by omega) (by omega)) dL_law_328 ?_
  refine lv_as (show xs (nI (i + 2)).toNatClampNeg = xs (i + 2) by rw [nI_clamp (by omega)]) ?_
  refine q_callVI (n := 2) (o := 188) (As := [.int (xs (i + 1)), .int (xs (i + 2))]) (rest := [.int r]) C hM hA K2 (qmem_11 E ad S1 A1 b1 (by decide +kernel)) (by decide) rfl gL_law_X11_crow rfl rfl rfl (by decide +kernel) ⟨(Nat.le_of_ble_eq_true rfl), (Nat.le_of_ble_eq_true rfl)⟩ rfl hl.1 rfl (Nat.le_of_ble_eq_true rfl) ⟨hc.1, hc.2⟩ dL_law_329 (fun r2 S2 A2 b2 H locs hp2 hM => ?_)
  obtain ⟨er, hR2⟩ := h2 r2 S2 A2 b2 hp2
  exact lv_icmp_eq (tgt := 1008) hx hb dL_law_332 (by decide) (fun _ => kk S2 A2 b2 H locs hM hR2) (fun z => absurd er z)
set_option maxHeartbeats 4000000 in
set_option maxRecDepth 100000 in
theorem lc_hour {p : Program} {l : Launch} {e : Env} {s : State} {m : MethodId} {bs : Nat} {below : List Frame} {meth : Method} {c : Code} {H : Heap} {locs : List Loc} {cells slots : Nat} {Q : State → Prop} {ls : Array Slot} {E : qE} {ad : Nat → Nat} {S A : qA2} {b : qB} {L i : Nat} {xs : Nat → Int32} (C : qC E p s m #[Value.ref bs] meth c cL_law 4 wsL_law RL (some .boolean)) (hM : qM E ad S A b (nAr s.heap.size) s H locs) (hR : Rel S A b) (hX : va_X bs L xs s s.heap) (hbl : bs < s.heap.size) (hi : i + 4 ≤ L) (hL : L ≤ 2048) (hc : cells ≤ 600000 ∧ slots ≤ 7302250) (hl : lv_has ls 4 [(3, .int (nI i)), (2, .ref (ad 188)), (1, .ref (ad 0)), (0, .ref bs)])
    (kk : ∀ (S' A' : qA2) (b' : qB) (H1 : Heap) (locs1 : List Loc), qM E ad S' A' b' (nAr s.heap.size) s H1 locs1 → Rel S' A' b' → W p l e room_1 s m #[Value.ref bs] below meth c H1 locs1 cells slots Q (F0 m 1008 ls [])) : W p l e room_1 s m #[Value.ref bs] below meth c H locs cells slots Q (F0 m 337 ls []) := by
  have hx := C.1
  have hb := C.2.1
  have hbA : ¬ nAr s.heap.size bs := Nat.not_le.mpr hbl
  have hA : ∀ q, s.heap.size ≤ q → nAr s.heap.size q := fun _ h => h
  refine lv_aload_n hx hb dL_law_337 rfl (lv_at hl 2 rfl) ?_
  refine lv_aload_n hx hb dL_law_338 rfl (lv_at hl 3 rfl) ?_
  refine lv_iload_n hx hb dL_law_339 rfl (lv_at hl 0 rfl) ?_
  refine lv_iconst (v := 1) hx hb dL_law_340 (by decide) ?_
  refine lv_iadd hx hb dL_law_341 ?_
  refine lv_as (show nI i + 1 = nI (i + 1) from nI_add i 1) ?_
  refine va_sld hx hb hX hbl hbA hM.2.2 (vp_in_nI (by omega) (by omega)) dL_law_342 ?_
  refine lv_as (show xs (nI (i + 1)).toNatClampNeg = xs (i + 1) by rw [nI_clamp (by omega)]) ?_
  obtain ⟨post, K1, h1⟩ := st_hour E ad l hR (xs (i + 1))
  refine q_callVI (n := 1) (o := 0) (As := [.int (xs (i + 1))]) (rest := []) C hM hA K1 (qmem_10 E ad S A b (by decide +kernel)) (by decide) rfl gL_law_X10_hour rfl rfl rfl (by decide +kernel) ⟨(Nat.le_of_ble_eq_true rfl), (Nat.le_of_ble_eq_true rfl)⟩ rfl hl.1 rfl (Nat.le_of_ble_eq_true rfl) ⟨hc.1, hc.2⟩ dL_law_343 (fun r S1 A1 b1 H locs hp hM => ?_)
  obtain ⟨post2, K2, h2⟩ := h1 r S1 A1 b1 hp
  refine lv_aload_n hx hb dL_law_346 rfl (lv_at hl 1 rfl) ?_
  refine lv_aload_n hx hb dL_law_347 rfl (lv_at hl 3 rfl) ?_
  refine lv_iload_n hx hb dL_law_348 rfl (lv_at hl 0 rfl) ?_
  refine lv_iconst (v := 1) hx hb dL_law_349 (by decide) ?_
  refine lv_iadd hx hb dL_law_350 ?_
  refine lv_as (show nI i + 1 = nI (i + 1) from nI_add i 1) ?_
  refine va_sld hx hb hX hbl hbA hM.2.2 (vp_in_nI (by omega) (by omega)) dL_law_351 ?_
  refine lv_as (show xs (nI (i + 1)).toNatClampNeg = xs (i + 1) by rw [nI_clamp (by omega)]) ?_
  refine q_callVI (n := 1) (o := 188) (As := [.int (xs (i + 1))]) (rest := [.int r]) C hM hA K2 (qmem_11 E ad S1 A1 b1 (by decide +kernel)) (by decide) rfl gL_law_X11_hour rfl rfl rfl (by decide +kernel) ⟨(Nat.le_of_ble_eq_true rfl), (Nat.le_of_ble_eq_true rfl)⟩ rfl hl.1 rfl (Nat.le_of_ble_eq_true rfl) ⟨hc.1, hc.2⟩ dL_law_352 (fun r2 S2 A2 b2 H locs hp2 hM => ?_)
  obtain ⟨er, hR2⟩ := h2 r2 S2 A2 b2 hp2
  exact lv_icmp_eq (tgt := 1008) hx hb dL_law_355 (by decide) (fun _ => kk S2 A2 b2 H locs hM hR2) (fun z => absurd er z)
set_option maxHeartbeats 4000000 in
set_option maxRecDepth 100000 in
theorem lc_let {p : Program} {l : Launch} {e : Env} {s : State} {m : MethodId} {bs : Nat} {below : List Frame} {meth : Method} {c : Code} {H : Heap} {locs : List Loc} {cells slots : Nat} {Q : State → Prop} {ls : Array Slot} {E : qE} {ad : Nat → Nat} {S A : qA2} {b : qB} {L i : Nat} {xs : Nat → Int32} (C : qC E p s m #[Value.ref bs] meth c cL_law 4 wsL_law RL (some .boolean)) (hM : qM E ad S A b (nAr s.heap.size) s H locs) (hR : Rel S A b) (hX : va_X bs L xs s s.heap) (hbl : bs < s.heap.size) (hi : i + 4 ≤ L) (hL : L ≤ 2048) (hc : cells ≤ 600000 ∧ slots ≤ 7302250) (hl : lv_has ls 4 [(3, .int (nI i)), (2, .ref (ad 188)), (1, .ref (ad 0)), (0, .ref bs)])
    (kk : ∀ (S' A' : qA2) (b' : qB) (H1 : Heap) (locs1 : List Loc), qM E ad S' A' b' (nAr s.heap.size) s H1 locs1 → Rel S' A' b' → W p l e room_1 s m #[Value.ref bs] below meth c H1 locs1 cells slots Q (F0 m 1008 ls [])) : W p l e room_1 s m #[Value.ref bs] below meth c H locs cells slots Q (F0 m 360 ls []) := by
  have hx := C.1
  have hb := C.2.1
  have hbA : ¬ nAr s.heap.size bs := Nat.not_le.mpr hbl
  have hA : ∀ q, s.heap.size ≤ q → nAr s.heap.size q := fun _ h => h
  refine lv_aload_n hx hb dL_law_360 rfl (lv_at hl 2 rfl) ?_
  refine lv_aload_n hx hb dL_law_361 rfl (lv_at hl 3 rfl) ?_
  refine lv_iload_n hx hb dL_law_362 rfl (lv_at hl 0 rfl) ?_
  refine lv_iconst (v := 1) hx hb dL_law_363 (by decide) ?_
  refine lv_iadd hx hb dL_law_364 ?_
  refine lv_as (show nI i + 1 = nI (i + 1) from nI_add i 1) ?_
  refine va_sld hx hb hX hbl hbA hM.2.2 (vp_in_nI (by omega) (by omega)) dL_law_365 ?_
  refine lv_as (show xs (nI (i + 1)).toNatClampNeg = xs (i + 1) by rw [nI_clamp (by omega)]) ?_
  refine lv_aload_n hx hb dL_law_366 rfl (lv_at hl 3 rfl) ?_
  refine lv_iload_n hx hb dL_law_367 rfl (lv_at hl 0 rfl) ?_
  refine lv_iconst (v := 2) hx hb dL_law_368 (by decide) ?_
  refine lv_iadd hx hb dL_law_369 ?_
  refine lv_as (show nI i + 2 = nI (i + 2) from nI_add i 2) ?_
  refine va_sld hx hb hX hbl hbA hM.2.2 (vp_in_nI (by omega) (by omega)) dL_law_370 ?_
  refine lv_as (show xs (nI (i + 2)).toNatClampNeg = xs (i + 2) by rw [nI_clamp (by omega)]) ?_
  obtain ⟨post, K1, h1⟩ := st_let E ad l hR (xs (i + 1)) (xs (i + 2))
  refine q_callVI (n := 2) (o := 0) (As := [.int (xs (i + 1)), .int (xs (i + 2))]) (rest := []) C hM hA K1 (qmem_10 E ad S A b (by decide +kernel)) (by decide) rfl gL_law_X10_let rfl rfl rfl (by decide +kernel) ⟨(Nat.le_of_ble_eq_true rfl), (Nat.le_of_ble_eq_true rfl)⟩ rfl hl.1 rfl (Nat.le_of_ble_eq_true rfl) ⟨hc.1, hc.2⟩ dL_law_371 (fun r S1 A1 b1 H locs hp hM => ?_)
  obtain ⟨post2, K2, h2⟩ := h1 r S1 A1 b1 hp
  refine lv_aload_n hx hb dL_law_374 rfl (lv_at hl 1 rfl) ?_
  refine lv_aload_n hx hb dL_law_375 rfl (lv_at hl 3 rfl) ?_
  refine lv_iload_n hx hb dL_law_376 rfl (lv_at hl 0 rfl) ?_
  refine lv_iconst (v := 1) hx hb dL_law_377 (by decide) ?_
  refine lv_iadd hx hb dL_law_378 ?_
  refine lv_as (show nI i + 1 = nI (i + 1) from nI_add i 1) ?_
  refine va_sld hx hb hX hbl hbA hM.2.2 (vp_in_nI (by omega) (by omega)) dL_law_379 ?_
  refine lv_as (show xs (nI (i + 1)).toNatClampNeg = xs (i + 1) by rw [nI_clamp (by omega)]) ?_
  refine lv_aload_n hx hb dL_law_380 rfl (lv_at hl 3 rfl) ?_
  refine lv_iload_n hx hb dL_law_381 rfl (lv_at hl 0 rfl) ?_
  refine lv_iconst (v := 2) hx hb dL_law_382 (by decide) ?_
  refine lv_iadd hx hb dL_law_383 ?_
  refine lv_as (show nI i + 2 = nI (i + 2) from nI_add i 2) ?_
  refine va_sld hx hb hX hbl hbA hM.2.2 (vp_in_nI (by omega) (by omega)) dL_law_384 ?_
  refine lv_as (show xs (nI (i + 2)).toNatClampNeg = xs (i + 2) by rw [nI_clamp (by omega)]) ?_
  refine q_callVI (n := 2) (o := 188) (As := [.int (xs (i + 1)), .int (xs (i + 2))]) (rest := [.int r]) C hM hA K2 (qmem_11 E ad S1 A1 b1 (by decide +kernel)) (by decide) rfl gL_law_X11_let rfl rfl rfl (by decide +kernel) ⟨(Nat.le_of_ble_eq_true rfl), (Nat.le_of_ble_eq_true rfl)⟩ rfl hl.1 rfl (Nat.le_of_ble_eq_true rfl) ⟨hc.1, hc.2⟩ dL_law_385 (fun r2 S2 A2 b2 H locs hp2 hM => ?_)
  obtain ⟨er, hR2⟩ := h2 r2 S2 A2 b2 hp2
  exact lv_icmp_eq (tgt := 1008) hx hb dL_law_388 (by decide) (fun _ => kk S2 A2 b2 H locs hM hR2) (fun z => absurd er z)
set_option maxHeartbeats 4000000 in
set_option maxRecDepth 100000 in
theorem lc_giveUp {p : Program} {l : Launch} {e : Env} {s : State} {m : MethodId} {bs : Nat} {below : List Frame} {meth : Method} {c : Code} {H : Heap} {locs : List Loc} {cells slots : Nat} {Q : State → Prop} {ls : Array Slot} {E : qE} {ad : Nat → Nat} {S A : qA2} {b : qB} {L i : Nat} {xs : Nat → Int32} (C : qC E p s m #[Value.ref bs] meth c cL_law 4 wsL_law RL (some .boolean)) (hM : qM E ad S A b (nAr s.heap.size) s H locs) (hR : Rel S A b) (hX : va_X bs L xs s s.heap) (hbl : bs < s.heap.size) (hi : i + 4 ≤ L) (hL : L ≤ 2048) (hc : cells ≤ 600000 ∧ slots ≤ 7302250) (hl : lv_has ls 4 [(3, .int (nI i)), (2, .ref (ad 188)), (1, .ref (ad 0)), (0, .ref bs)])
    (kk : ∀ (S' A' : qA2) (b' : qB) (H1 : Heap) (locs1 : List Loc), qM E ad S' A' b' (nAr s.heap.size) s H1 locs1 → Rel S' A' b' → W p l e room_1 s m #[Value.ref bs] below meth c H1 locs1 cells slots Q (F0 m 1008 ls [])) : W p l e room_1 s m #[Value.ref bs] below meth c H locs cells slots Q (F0 m 393 ls []) := by
  have hx := C.1
  have hb := C.2.1
  have hbA : ¬ nAr s.heap.size bs := Nat.not_le.mpr hbl
  have hA : ∀ q, s.heap.size ≤ q → nAr s.heap.size q := fun _ h => h
  refine lv_aload_n hx hb dL_law_393 rfl (lv_at hl 2 rfl) ?_
  refine lv_aload_n hx hb dL_law_394 rfl (lv_at hl 3 rfl) ?_
  refine lv_iload_n hx hb dL_law_395 rfl (lv_at hl 0 rfl) ?_
  refine lv_iconst (v := 1) hx hb dL_law_396 (by decide) ?_
  refine lv_iadd hx hb dL_law_397 ?_
  refine lv_as (show nI i + 1 = nI (i + 1) from nI_add i 1) ?_
  refine va_sld hx hb hX hbl hbA hM.2.2 (vp_in_nI (by omega) (by omega)) dL_law_398 ?_
  refine lv_as (show xs (nI (i + 1)).toNatClampNeg = xs (i + 1) by rw [nI_clamp (by omega)]) ?_
  obtain ⟨post, K1, h1⟩ := st_giveUp E ad l hR (xs (i + 1))
  refine q_callVI (n := 1) (o := 0) (As := [.int (xs (i + 1))]) (rest := []) C hM hA K1 (qmem_10 E ad S A b (by decide +kernel)) (by decide) rfl gL_law_X10_giveUp rfl rfl rfl (by decide +kernel) ⟨(Nat.le_of_ble_eq_true rfl), (Nat.le_of_ble_eq_true rfl)⟩ rfl hl.1 rfl (Nat.le_of_ble_eq_true rfl) ⟨hc.1, hc.2⟩ dL_law_399 (fun r S1 A1 b1 H locs hp hM => ?_)
  obtain ⟨post2, K2, h2⟩ := h1 r S1 A1 b1 hp
  refine lv_aload_n hx hb dL_law_402 rfl (lv_at hl 1 rfl) ?_
  refine lv_aload_n hx hb dL_law_403 rfl (lv_at hl 3 rfl) ?_
  refine lv_iload_n hx hb dL_law_404 rfl (lv_at hl 0 rfl) ?_
  refine lv_iconst (v := 1) hx hb dL_law_405 (by decide) ?_
  refine lv_iadd hx hb dL_law_406 ?_
  refine lv_as (show nI i + 1 = nI (i + 1) from nI_add i 1) ?_
  refine va_sld hx hb hX hbl hbA hM.2.2 (vp_in_nI (by omega) (by omega)) dL_law_407 ?_
  refine lv_as (show xs (nI (i + 1)).toNatClampNeg = xs (i + 1) by rw [nI_clamp (by omega)]) ?_
  refine q_callVI (n := 1) (o := 188) (As := [.int (xs (i + 1))]) (rest := [.int r]) C hM hA K2 (qmem_11 E ad S1 A1 b1 (by decide +kernel)) (by decide) rfl gL_law_X11_giveUp rfl rfl rfl (by decide +kernel) ⟨(Nat.le_of_ble_eq_true rfl), (Nat.le_of_ble_eq_true rfl)⟩ rfl hl.1 rfl (Nat.le_of_ble_eq_true rfl) ⟨hc.1, hc.2⟩ dL_law_408 (fun r2 S2 A2 b2 H locs hp2 hM => ?_)
  obtain ⟨er, hR2⟩ := h2 r2 S2 A2 b2 hp2
  exact lv_icmp_eq (tgt := 1008) hx hb dL_law_411 (by decide) (fun _ => kk S2 A2 b2 H locs hM hR2) (fun z => absurd er z)
set_option maxHeartbeats 4000000 in
set_option maxRecDepth 100000 in
theorem lc_move {p : Program} {l : Launch} {e : Env} {s : State} {m : MethodId} {bs : Nat} {below : List Frame} {meth : Method} {c : Code} {H : Heap} {locs : List Loc} {cells slots : Nat} {Q : State → Prop} {ls : Array Slot} {E : qE} {ad : Nat → Nat} {S A : qA2} {b : qB} {L i : Nat} {xs : Nat → Int32} (C : qC E p s m #[Value.ref bs] meth c cL_law 4 wsL_law RL (some .boolean)) (hM : qM E ad S A b (nAr s.heap.size) s H locs) (hR : Rel S A b) (hX : va_X bs L xs s s.heap) (hbl : bs < s.heap.size) (hi : i + 4 ≤ L) (hL : L ≤ 2048) (hc : cells ≤ 600000 ∧ slots ≤ 7302250) (hl : lv_has ls 4 [(3, .int (nI i)), (2, .ref (ad 188)), (1, .ref (ad 0)), (0, .ref bs)])
    (kk : ∀ (S' A' : qA2) (b' : qB) (H1 : Heap) (locs1 : List Loc), qM E ad S' A' b' (nAr s.heap.size) s H1 locs1 → Rel S' A' b' → W p l e room_1 s m #[Value.ref bs] below meth c H1 locs1 cells slots Q (F0 m 1008 ls [])) : W p l e room_1 s m #[Value.ref bs] below meth c H locs cells slots Q (F0 m 416 ls []) := by
  have hx := C.1
  have hb := C.2.1
  have hbA : ¬ nAr s.heap.size bs := Nat.not_le.mpr hbl
  have hA : ∀ q, s.heap.size ≤ q → nAr s.heap.size q := fun _ h => h
  by_cases hz : xs (i + 2) = 0
  · skip
    refine lv_aload_n hx hb dL_law_416 rfl (lv_at hl 2 rfl) ?_
    refine lv_aload_n hx hb dL_law_417 rfl (lv_at hl 3 rfl) ?_
    refine lv_iload_n hx hb dL_law_418 rfl (lv_at hl 0 rfl) ?_
    refine lv_iconst (v := 1) hx hb dL_law_419 (by decide) ?_
    refine lv_iadd hx hb dL_law_420 ?_
    refine lv_as (show nI i + 1 = nI (i + 1) from nI_add i 1) ?_
    refine va_sld hx hb hX hbl hbA hM.2.2 (vp_in_nI (by omega) (by omega)) dL_law_421 ?_
    refine lv_as (show xs (nI (i + 1)).toNatClampNeg = xs (i + 1) by rw [nI_clamp (by omega)]) ?_
    refine lv_aload_n hx hb dL_law_422 rfl (lv_at hl 3 rfl) ?_
    refine lv_iload_n hx hb dL_law_423 rfl (lv_at hl 0 rfl) ?_
    refine lv_iconst (v := 2) hx hb dL_law_424 (by decide) ?_
    refine lv_iadd hx hb dL_law_425 ?_
    refine lv_as (show nI i + 2 = nI (i + 2) from nI_add i 2) ?_
    refine va_sld hx hb hX hbl hbA hM.2.2 (vp_in_nI (by omega) (by omega)) dL_law_426 ?_
    refine lv_as (show xs (nI (i + 2)).toNatClampNeg = xs (i + 2) by rw [nI_clamp (by omega)]) ?_
    refine lv_if_eq (tgt := 434) hx hb dL_law_427 (by decide) (fun _ => ?_) (fun z => absurd hz z)
    refine lv_iconst (v := 0) hx hb dL_law_434 (by decide) ?_
    obtain ⟨post, K1, h1⟩ := st_move E ad l hR (xs (i + 1)) 0
    refine q_callVI (n := 2) (o := 0) (As := [.int (xs (i + 1)), .int 0]) (rest := []) C hM hA K1 (qmem_10 E ad S A b (by decide +kernel)) (by decide) rfl gL_law_X10_move rfl rfl rfl (by decide +kernel) ⟨(Nat.le_of_ble_eq_true rfl), (Nat.le_of_ble_eq_true rfl)⟩ rfl hl.1 rfl (Nat.le_of_ble_eq_true rfl) ⟨hc.1, hc.2⟩ dL_law_435 (fun r S1 A1 b1 H locs hp hM => ?_)
    obtain ⟨post2, K2, h2⟩ := h1 r S1 A1 b1 hp
    refine lv_aload_n hx hb dL_law_438 rfl (lv_at hl 1 rfl) ?_
    refine lv_aload_n hx hb dL_law_439 rfl (lv_at hl 3 rfl) ?_
    refine lv_iload_n hx hb dL_law_440 rfl (lv_at hl 0 rfl) ?_
    refine lv_iconst (v := 1) hx hb dL_law_441 (by decide) ?_
    refine lv_iadd hx hb dL_law_442 ?_
    refine lv_as (show nI i + 1 = nI (i + 1) from nI_add i 1) ?_
    refine va_sld hx hb hX hbl hbA hM.2.2 (vp_in_nI (by omega) (by omega)) dL_law_443 ?_
    refine lv_as (show xs (nI (i + 1)).toNatClampNeg = xs (i + 1) by rw [nI_clamp (by omega)]) ?_
    refine lv_aload_n hx hb dL_law_444 rfl (lv_at hl 3 rfl) ?_
    refine lv_iload_n hx hb dL_law_445 rfl (lv_at hl 0 rfl) ?_
    refine lv_iconst (v := 2) hx hb dL_law_446 (by decide) ?_
    refine lv_iadd hx hb dL_law_447 ?_
    refine lv_as (show nI i + 2 = nI (i + 2) from nI_add i 2) ?_
    refine va_sld hx hb hX hbl hbA hM.2.2 (vp_in_nI (by omega) (by omega)) dL_law_448 ?_
    refine lv_as (show xs (nI (i + 2)).toNatClampNeg = xs (i + 2) by rw [nI_clamp (by omega)]) ?_
    refine lv_if_eq (tgt := 456) hx hb dL_law_449 (by decide) (fun _ => ?_) (fun z => absurd hz z)
    refine lv_iconst (v := 0) hx hb dL_law_456 (by decide) ?_
    refine q_callVI (n := 2) (o := 188) (As := [.int (xs (i + 1)), .int 0]) (rest := [.int r]) C hM hA K2 (qmem_11 E ad S1 A1 b1 (by decide +kernel)) (by decide) rfl gL_law_X11_move rfl rfl rfl (by decide +kernel) ⟨(Nat.le_of_ble_eq_true rfl), (Nat.le_of_ble_eq_true rfl)⟩ rfl hl.1 rfl (Nat.le_of_ble_eq_true rfl) ⟨hc.1, hc.2⟩ dL_law_457 (fun r2 S2 A2 b2 H locs hp2 hM => ?_)
    obtain ⟨er, hR2⟩ := h2 r2 S2 A2 b2 hp2
    exact lv_icmp_eq (tgt := 1008) hx hb dL_law_460 (by decide) (fun _ => kk S2 A2 b2 H locs hM hR2) (fun z => absurd er z)
  · skip
    refine lv_aload_n hx hb dL_law_416 rfl (lv_at hl 2 rfl) ?_
    refine lv_aload_n hx hb dL_law_417 rfl (lv_at hl 3 rfl) ?_
    refine lv_iload_n hx hb dL_law_418 rfl (lv_at hl 0 rfl) ?_
    refine lv_iconst (v := 1) hx hb dL_law_419 (by decide) ?_
    refine lv_iadd hx hb dL_law_420 ?_
    refine lv_as (show nI i + 1 = nI (i + 1) from nI_add i 1) ?_
    refine va_sld hx hb hX hbl hbA hM.2.2 (vp_in_nI (by omega) (by omega)) dL_law_421 ?_
    refine lv_as (show xs (nI (i + 1)).toNatClampNeg = xs (i + 1) by rw [nI_clamp (by omega)]) ?_
    refine lv_aload_n hx hb dL_law_422 rfl (lv_at hl 3 rfl) ?_
    refine lv_iload_n hx hb dL_law_423 rfl (lv_at hl 0 rfl) ?_
    refine lv_iconst (v := 2) hx hb dL_law_424 (by decide) ?_
    refine lv_iadd hx hb dL_law_425 ?_
    refine lv_as (show nI i + 2 = nI (i + 2) from nI_add i 2) ?_
    refine va_sld hx hb hX hbl hbA hM.2.2 (vp_in_nI (by omega) (by omega)) dL_law_426 ?_
    refine lv_as (show xs (nI (i + 2)).toNatClampNeg = xs (i + 2) by rw [nI_clamp (by omega)]) ?_
    refine lv_if_eq (tgt := 434) hx hb dL_law_427 (by decide) (fun z => absurd z hz) (fun _ => ?_)
    refine lv_iconst (v := 1) hx hb dL_law_430 (by decide) ?_
    refine lv_goto (tgt := 435) hx hb dL_law_431 (by decide) ?_
    obtain ⟨post, K1, h1⟩ := st_move E ad l hR (xs (i + 1)) 1
    refine q_callVI (n := 2) (o := 0) (As := [.int (xs (i + 1)), .int 1]) (rest := []) C hM hA K1 (qmem_10 E ad S A b (by decide +kernel)) (by decide) rfl gL_law_X10_move rfl rfl rfl (by decide +kernel) ⟨(Nat.le_of_ble_eq_true rfl), (Nat.le_of_ble_eq_true rfl)⟩ rfl hl.1 rfl (Nat.le_of_ble_eq_true rfl) ⟨hc.1, hc.2⟩ dL_law_435 (fun r S1 A1 b1 H locs hp hM => ?_)
    obtain ⟨post2, K2, h2⟩ := h1 r S1 A1 b1 hp
    refine lv_aload_n hx hb dL_law_438 rfl (lv_at hl 1 rfl) ?_
    refine lv_aload_n hx hb dL_law_439 rfl (lv_at hl 3 rfl) ?_
    refine lv_iload_n hx hb dL_law_440 rfl (lv_at hl 0 rfl) ?_
    refine lv_iconst (v := 1) hx hb dL_law_441 (by decide) ?_
    refine lv_iadd hx hb dL_law_442 ?_
    refine lv_as (show nI i + 1 = nI (i + 1) from nI_add i 1) ?_
    refine va_sld hx hb hX hbl hbA hM.2.2 (vp_in_nI (by omega) (by omega)) dL_law_443 ?_
    refine lv_as (show xs (nI (i + 1)).toNatClampNeg = xs (i + 1) by rw [nI_clamp (by omega)]) ?_
    refine lv_aload_n hx hb dL_law_444 rfl (lv_at hl 3 rfl) ?_
    refine lv_iload_n hx hb dL_law_445 rfl (lv_at hl 0 rfl) ?_
    refine lv_iconst (v := 2) hx hb dL_law_446 (by decide) ?_
    refine lv_iadd hx hb dL_law_447 ?_
    refine lv_as (show nI i + 2 = nI (i + 2) from nI_add i 2) ?_
    refine va_sld hx hb hX hbl hbA hM.2.2 (vp_in_nI (by omega) (by omega)) dL_law_448 ?_
    refine lv_as (show xs (nI (i + 2)).toNatClampNeg = xs (i + 2) by rw [nI_clamp (by omega)]) ?_
    refine lv_if_eq (tgt := 456) hx hb dL_law_449 (by decide) (fun z => absurd z hz) (fun _ => ?_)
    refine lv_iconst (v := 1) hx hb dL_law_452 (by decide) ?_
    refine lv_goto (tgt := 457) hx hb dL_law_453 (by decide) ?_
    refine q_callVI (n := 2) (o := 188) (As := [.int (xs (i + 1)), .int 1]) (rest := [.int r]) C hM hA K2 (qmem_11 E ad S1 A1 b1 (by decide +kernel)) (by decide) rfl gL_law_X11_move rfl rfl rfl (by decide +kernel) ⟨(Nat.le_of_ble_eq_true rfl), (Nat.le_of_ble_eq_true rfl)⟩ rfl hl.1 rfl (Nat.le_of_ble_eq_true rfl) ⟨hc.1, hc.2⟩ dL_law_457 (fun r2 S2 A2 b2 H locs hp2 hM => ?_)
    obtain ⟨er, hR2⟩ := h2 r2 S2 A2 b2 hp2
    exact lv_icmp_eq (tgt := 1008) hx hb dL_law_460 (by decide) (fun _ => kk S2 A2 b2 H locs hM hR2) (fun z => absurd er z)
set_option maxHeartbeats 4000000 in
set_option maxRecDepth 100000 in
theorem lc_thaw {p : Program} {l : Launch} {e : Env} {s : State} {m : MethodId} {bs : Nat} {below : List Frame} {meth : Method} {c : Code} {H : Heap} {locs : List Loc} {cells slots : Nat} {Q : State → Prop} {ls : Array Slot} {E : qE} {ad : Nat → Nat} {S A : qA2} {b : qB} {L i : Nat} {xs : Nat → Int32} (C : qC E p s m #[Value.ref bs] meth c cL_law 4 wsL_law RL (some .boolean)) (hM : qM E ad S A b (nAr s.heap.size) s H locs) (hR : Rel S A b) (hX : va_X bs L xs s s.heap) (hbl : bs < s.heap.size) (hi : i + 4 ≤ L) (hL : L ≤ 2048) (hc : cells ≤ 600000 ∧ slots ≤ 7302250) (hl : lv_has ls 4 [(3, .int (nI i)), (2, .ref (ad 188)), (1, .ref (ad 0)), (0, .ref bs)])
    (kk : ∀ (S' A' : qA2) (b' : qB) (H1 : Heap) (locs1 : List Loc), qM E ad S' A' b' (nAr s.heap.size) s H1 locs1 → Rel S' A' b' → W p l e room_1 s m #[Value.ref bs] below meth c H1 locs1 cells slots Q (F0 m 1008 ls [])) : W p l e room_1 s m #[Value.ref bs] below meth c H locs cells slots Q (F0 m 465 ls []) := by
  have hx := C.1
  have hb := C.2.1
  have hbA : ¬ nAr s.heap.size bs := Nat.not_le.mpr hbl
  have hA : ∀ q, s.heap.size ≤ q → nAr s.heap.size q := fun _ h => h
  refine lv_aload_n hx hb dL_law_465 rfl (lv_at hl 2 rfl) ?_
  refine lv_aload_n hx hb dL_law_466 rfl (lv_at hl 3 rfl) ?_
  refine lv_iload_n hx hb dL_law_467 rfl (lv_at hl 0 rfl) ?_
  refine lv_iconst (v := 1) hx hb dL_law_468 (by decide) ?_
  refine lv_iadd hx hb dL_law_469 ?_
  refine lv_as (show nI i + 1 = nI (i + 1) from nI_add i 1) ?_
  refine va_sld hx hb hX hbl hbA hM.2.2 (vp_in_nI (by omega) (by omega)) dL_law_470 ?_
  refine lv_as (show xs (nI (i + 1)).toNatClampNeg = xs (i + 1) by rw [nI_clamp (by omega)]) ?_
  obtain ⟨post, K1, h1⟩ := st_thaw E ad l hR (xs (i + 1))
  refine q_callVI (n := 1) (o := 0) (As := [.int (xs (i + 1))]) (rest := []) C hM hA K1 (qmem_10 E ad S A b (by decide +kernel)) (by decide) rfl gL_law_X10_thaw rfl rfl rfl (by decide +kernel) ⟨(Nat.le_of_ble_eq_true rfl), (Nat.le_of_ble_eq_true rfl)⟩ rfl hl.1 rfl (Nat.le_of_ble_eq_true rfl) ⟨hc.1, hc.2⟩ dL_law_471 (fun r S1 A1 b1 H locs hp hM => ?_)
  obtain ⟨post2, K2, h2⟩ := h1 r S1 A1 b1 hp
  refine lv_aload_n hx hb dL_law_474 rfl (lv_at hl 1 rfl) ?_
  refine lv_aload_n hx hb dL_law_475 rfl (lv_at hl 3 rfl) ?_
  refine lv_iload_n hx hb dL_law_476 rfl (lv_at hl 0 rfl) ?_
  refine lv_iconst (v := 1) hx hb dL_law_477 (by decide) ?_
  refine lv_iadd hx hb dL_law_478 ?_
  refine lv_as (show nI i + 1 = nI (i + 1) from nI_add i 1) ?_
  refine va_sld hx hb hX hbl hbA hM.2.2 (vp_in_nI (by omega) (by omega)) dL_law_479 ?_
  refine lv_as (show xs (nI (i + 1)).toNatClampNeg = xs (i + 1) by rw [nI_clamp (by omega)]) ?_
  refine q_callVI (n := 1) (o := 188) (As := [.int (xs (i + 1))]) (rest := [.int r]) C hM hA K2 (qmem_11 E ad S1 A1 b1 (by decide +kernel)) (by decide) rfl gL_law_X11_thaw rfl rfl rfl (by decide +kernel) ⟨(Nat.le_of_ble_eq_true rfl), (Nat.le_of_ble_eq_true rfl)⟩ rfl hl.1 rfl (Nat.le_of_ble_eq_true rfl) ⟨hc.1, hc.2⟩ dL_law_480 (fun r2 S2 A2 b2 H locs hp2 hM => ?_)
  obtain ⟨er, hR2⟩ := h2 r2 S2 A2 b2 hp2
  exact lv_icmp_eq (tgt := 1008) hx hb dL_law_483 (by decide) (fun _ => kk S2 A2 b2 H locs hM hR2) (fun z => absurd er z)
set_option maxHeartbeats 4000000 in
set_option maxRecDepth 100000 in
theorem lc_shout {p : Program} {l : Launch} {e : Env} {s : State} {m : MethodId} {bs : Nat} {below : List Frame} {meth : Method} {c : Code} {H : Heap} {locs : List Loc} {cells slots : Nat} {Q : State → Prop} {ls : Array Slot} {E : qE} {ad : Nat → Nat} {S A : qA2} {b : qB} {L i : Nat} {xs : Nat → Int32} (C : qC E p s m #[Value.ref bs] meth c cL_law 4 wsL_law RL (some .boolean)) (hM : qM E ad S A b (nAr s.heap.size) s H locs) (hR : Rel S A b) (hX : va_X bs L xs s s.heap) (hbl : bs < s.heap.size) (hi : i + 4 ≤ L) (hL : L ≤ 2048) (hc : cells ≤ 600000 ∧ slots ≤ 7302250) (hl : lv_has ls 4 [(3, .int (nI i)), (2, .ref (ad 188)), (1, .ref (ad 0)), (0, .ref bs)])
    (kk : ∀ (S' A' : qA2) (b' : qB) (H1 : Heap) (locs1 : List Loc), qM E ad S' A' b' (nAr s.heap.size) s H1 locs1 → Rel S' A' b' → W p l e room_1 s m #[Value.ref bs] below meth c H1 locs1 cells slots Q (F0 m 1008 ls [])) : W p l e room_1 s m #[Value.ref bs] below meth c H locs cells slots Q (F0 m 488 ls []) := by
  have hx := C.1
  have hb := C.2.1
  have hbA : ¬ nAr s.heap.size bs := Nat.not_le.mpr hbl
  have hA : ∀ q, s.heap.size ≤ q → nAr s.heap.size q := fun _ h => h
  refine lv_aload_n hx hb dL_law_488 rfl (lv_at hl 2 rfl) ?_
  refine lv_aload_n hx hb dL_law_489 rfl (lv_at hl 3 rfl) ?_
  refine lv_iload_n hx hb dL_law_490 rfl (lv_at hl 0 rfl) ?_
  refine lv_iconst (v := 1) hx hb dL_law_491 (by decide) ?_
  refine lv_iadd hx hb dL_law_492 ?_
  refine lv_as (show nI i + 1 = nI (i + 1) from nI_add i 1) ?_
  refine va_sld hx hb hX hbl hbA hM.2.2 (vp_in_nI (by omega) (by omega)) dL_law_493 ?_
  refine lv_as (show xs (nI (i + 1)).toNatClampNeg = xs (i + 1) by rw [nI_clamp (by omega)]) ?_
  obtain ⟨post, K1, h1⟩ := st_shout E ad l hR (xs (i + 1))
  refine q_callVI (n := 1) (o := 0) (As := [.int (xs (i + 1))]) (rest := []) C hM hA K1 (qmem_10 E ad S A b (by decide +kernel)) (by decide) rfl gL_law_X10_shout rfl rfl rfl (by decide +kernel) ⟨(Nat.le_of_ble_eq_true rfl), (Nat.le_of_ble_eq_true rfl)⟩ rfl hl.1 rfl (Nat.le_of_ble_eq_true rfl) ⟨hc.1, hc.2⟩ dL_law_494 (fun r S1 A1 b1 H locs hp hM => ?_)
  obtain ⟨post2, K2, h2⟩ := h1 r S1 A1 b1 hp
  refine lv_aload_n hx hb dL_law_497 rfl (lv_at hl 1 rfl) ?_
  refine lv_aload_n hx hb dL_law_498 rfl (lv_at hl 3 rfl) ?_
  refine lv_iload_n hx hb dL_law_499 rfl (lv_at hl 0 rfl) ?_
  refine lv_iconst (v := 1) hx hb dL_law_500 (by decide) ?_
  refine lv_iadd hx hb dL_law_501 ?_
  refine lv_as (show nI i + 1 = nI (i + 1) from nI_add i 1) ?_
  refine va_sld hx hb hX hbl hbA hM.2.2 (vp_in_nI (by omega) (by omega)) dL_law_502 ?_
  refine lv_as (show xs (nI (i + 1)).toNatClampNeg = xs (i + 1) by rw [nI_clamp (by omega)]) ?_
  refine q_callVI (n := 1) (o := 188) (As := [.int (xs (i + 1))]) (rest := [.int r]) C hM hA K2 (qmem_11 E ad S1 A1 b1 (by decide +kernel)) (by decide) rfl gL_law_X11_shout rfl rfl rfl (by decide +kernel) ⟨(Nat.le_of_ble_eq_true rfl), (Nat.le_of_ble_eq_true rfl)⟩ rfl hl.1 rfl (Nat.le_of_ble_eq_true rfl) ⟨hc.1, hc.2⟩ dL_law_503 (fun r2 S2 A2 b2 H locs hp2 hM => ?_)
  obtain ⟨er, hR2⟩ := h2 r2 S2 A2 b2 hp2
  exact lv_icmp_eq (tgt := 1008) hx hb dL_law_506 (by decide) (fun _ => kk S2 A2 b2 H locs hM hR2) (fun z => absurd er z)
set_option maxHeartbeats 4000000 in
set_option maxRecDepth 100000 in
theorem lc_drift {p : Program} {l : Launch} {e : Env} {s : State} {m : MethodId} {bs : Nat} {below : List Frame} {meth : Method} {c : Code} {H : Heap} {locs : List Loc} {cells slots : Nat} {Q : State → Prop} {ls : Array Slot} {E : qE} {ad : Nat → Nat} {S A : qA2} {b : qB} {L i : Nat} {xs : Nat → Int32} (C : qC E p s m #[Value.ref bs] meth c cL_law 4 wsL_law RL (some .boolean)) (hM : qM E ad S A b (nAr s.heap.size) s H locs) (hR : Rel S A b) (hX : va_X bs L xs s s.heap) (hbl : bs < s.heap.size) (hi : i + 4 ≤ L) (hL : L ≤ 2048) (hc : cells ≤ 600000 ∧ slots ≤ 7302250) (hl : lv_has ls 4 [(3, .int (nI i)), (2, .ref (ad 188)), (1, .ref (ad 0)), (0, .ref bs)])
    (kk : ∀ (S' A' : qA2) (b' : qB) (H1 : Heap) (locs1 : List Loc), qM E ad S' A' b' (nAr s.heap.size) s H1 locs1 → Rel S' A' b' → W p l e room_1 s m #[Value.ref bs] below meth c H1 locs1 cells slots Q (F0 m 1008 ls [])) : W p l e room_1 s m #[Value.ref bs] below meth c H locs cells slots Q (F0 m 511 ls []) := by
  have hx := C.1
  have hb := C.2.1
  have hbA : ¬ nAr s.heap.size bs := Nat.not_le.mpr hbl
  have hA : ∀ q, s.heap.size ≤ q → nAr s.heap.size q := fun _ h => h
  refine lv_aload_n hx hb dL_law_511 rfl (lv_at hl 2 rfl) ?_
  refine lv_aload_n hx hb dL_law_512 rfl (lv_at hl 3 rfl) ?_
  refine lv_iload_n hx hb dL_law_513 rfl (lv_at hl 0 rfl) ?_
  refine lv_iconst (v := 1) hx hb dL_law_514 (by decide) ?_
  refine lv_iadd hx hb dL_law_515 ?_
  refine lv_as (show nI i + 1 = nI (i + 1) from nI_add i 1) ?_
  refine va_sld hx hb hX hbl hbA hM.2.2 (vp_in_nI (by omega) (by omega)) dL_law_516 ?_
  refine lv_as (show xs (nI (i + 1)).toNatClampNeg = xs (i + 1) by rw [nI_clamp (by omega)]) ?_
  obtain ⟨post, K1, h1⟩ := st_drift E ad l hR (xs (i + 1))
  refine q_callVI (n := 1) (o := 0) (As := [.int (xs (i + 1))]) (rest := []) C hM hA K1 (qmem_10 E ad S A b (by decide +kernel)) (by decide) rfl gL_law_X10_drift rfl rfl rfl (by decide +kernel) ⟨(Nat.le_of_ble_eq_true rfl), (Nat.le_of_ble_eq_true rfl)⟩ rfl hl.1 rfl (Nat.le_of_ble_eq_true rfl) ⟨hc.1, hc.2⟩ dL_law_517 (fun r S1 A1 b1 H locs hp hM => ?_)
  obtain ⟨post2, K2, h2⟩ := h1 r S1 A1 b1 hp
  refine lv_aload_n hx hb dL_law_520 rfl (lv_at hl 1 rfl) ?_
  refine lv_aload_n hx hb dL_law_521 rfl (lv_at hl 3 rfl) ?_
  refine lv_iload_n hx hb dL_law_522 rfl (lv_at hl 0 rfl) ?_
  refine lv_iconst (v := 1) hx hb dL_law_523 (by decide) ?_
  refine lv_iadd hx hb dL_law_524 ?_
  refine lv_as (show nI i + 1 = nI (i + 1) from nI_add i 1) ?_
  refine va_sld hx hb hX hbl hbA hM.2.2 (vp_in_nI (by omega) (by omega)) dL_law_525 ?_
  refine lv_as (show xs (nI (i + 1)).toNatClampNeg = xs (i + 1) by rw [nI_clamp (by omega)]) ?_
  refine q_callVI (n := 1) (o := 188) (As := [.int (xs (i + 1))]) (rest := [.int r]) C hM hA K2 (qmem_11 E ad S1 A1 b1 (by decide +kernel)) (by decide) rfl gL_law_X11_drift rfl rfl rfl (by decide +kernel) ⟨(Nat.le_of_ble_eq_true rfl), (Nat.le_of_ble_eq_true rfl)⟩ rfl hl.1 rfl (Nat.le_of_ble_eq_true rfl) ⟨hc.1, hc.2⟩ dL_law_526 (fun r2 S2 A2 b2 H locs hp2 hM => ?_)
  obtain ⟨er, hR2⟩ := h2 r2 S2 A2 b2 hp2
  exact lv_icmp_eq (tgt := 1008) hx hb dL_law_529 (by decide) (fun _ => kk S2 A2 b2 H locs hM hR2) (fun z => absurd er z)
set_option maxHeartbeats 4000000 in
set_option maxRecDepth 100000 in
theorem lc_undo {p : Program} {l : Launch} {e : Env} {s : State} {m : MethodId} {bs : Nat} {below : List Frame} {meth : Method} {c : Code} {H : Heap} {locs : List Loc} {cells slots : Nat} {Q : State → Prop} {ls : Array Slot} {E : qE} {ad : Nat → Nat} {S A : qA2} {b : qB} {L i : Nat} {xs : Nat → Int32} (C : qC E p s m #[Value.ref bs] meth c cL_law 4 wsL_law RL (some .boolean)) (hM : qM E ad S A b (nAr s.heap.size) s H locs) (hR : Rel S A b) (hX : va_X bs L xs s s.heap) (hbl : bs < s.heap.size) (hi : i + 4 ≤ L) (hL : L ≤ 2048) (hc : cells ≤ 600000 ∧ slots ≤ 7302250) (hl : lv_has ls 4 [(3, .int (nI i)), (2, .ref (ad 188)), (1, .ref (ad 0)), (0, .ref bs)])
    (kk : ∀ (S' A' : qA2) (b' : qB) (H1 : Heap) (locs1 : List Loc), qM E ad S' A' b' (nAr s.heap.size) s H1 locs1 → Rel S' A' b' → W p l e room_1 s m #[Value.ref bs] below meth c H1 locs1 cells slots Q (F0 m 1008 ls [])) : W p l e room_1 s m #[Value.ref bs] below meth c H locs cells slots Q (F0 m 534 ls []) := by
  have hx := C.1
  have hb := C.2.1
  have hbA : ¬ nAr s.heap.size bs := Nat.not_le.mpr hbl
  have hA : ∀ q, s.heap.size ≤ q → nAr s.heap.size q := fun _ h => h
  refine lv_aload_n hx hb dL_law_534 rfl (lv_at hl 2 rfl) ?_
  obtain ⟨post, K1, h1⟩ := st_undo E ad l hR 
  refine q_callVI (n := 0) (o := 0) (As := []) (rest := []) C hM hA K1 (qmem_10 E ad S A b (by decide +kernel)) (by decide) rfl gL_law_X10_undo rfl rfl rfl (by decide +kernel) ⟨(Nat.le_of_ble_eq_true rfl), (Nat.le_of_ble_eq_true rfl)⟩ rfl hl.1 rfl (Nat.le_of_ble_eq_true rfl) ⟨hc.1, hc.2⟩ dL_law_535 (fun r S1 A1 b1 H locs hp hM => ?_)
  obtain ⟨post2, K2, h2⟩ := h1 r S1 A1 b1 hp
  refine lv_aload_n hx hb dL_law_538 rfl (lv_at hl 1 rfl) ?_
  refine q_callVI (n := 0) (o := 188) (As := []) (rest := [.int r]) C hM hA K2 (qmem_11 E ad S1 A1 b1 (by decide +kernel)) (by decide) rfl gL_law_X11_undo rfl rfl rfl (by decide +kernel) ⟨(Nat.le_of_ble_eq_true rfl), (Nat.le_of_ble_eq_true rfl)⟩ rfl hl.1 rfl (Nat.le_of_ble_eq_true rfl) ⟨hc.1, hc.2⟩ dL_law_539 (fun r2 S2 A2 b2 H locs hp2 hM => ?_)
  obtain ⟨er, hR2⟩ := h2 r2 S2 A2 b2 hp2
  exact lv_icmp_eq (tgt := 1008) hx hb dL_law_542 (by decide) (fun _ => kk S2 A2 b2 H locs hM hR2) (fun z => absurd er z)
set_option maxHeartbeats 4000000 in
set_option maxRecDepth 100000 in
theorem lc_lies {p : Program} {l : Launch} {e : Env} {s : State} {m : MethodId} {bs : Nat} {below : List Frame} {meth : Method} {c : Code} {H : Heap} {locs : List Loc} {cells slots : Nat} {Q : State → Prop} {ls : Array Slot} {E : qE} {ad : Nat → Nat} {S A : qA2} {b : qB} {L i : Nat} {xs : Nat → Int32} (C : qC E p s m #[Value.ref bs] meth c cL_law 4 wsL_law RL (some .boolean)) (hM : qM E ad S A b (nAr s.heap.size) s H locs) (hR : Rel S A b) (hX : va_X bs L xs s s.heap) (hbl : bs < s.heap.size) (hi : i + 4 ≤ L) (hL : L ≤ 2048) (hc : cells ≤ 600000 ∧ slots ≤ 7302250) (hl : lv_has ls 4 [(3, .int (nI i)), (2, .ref (ad 188)), (1, .ref (ad 0)), (0, .ref bs)])
    (kk : ∀ (S' A' : qA2) (b' : qB) (H1 : Heap) (locs1 : List Loc), qM E ad S' A' b' (nAr s.heap.size) s H1 locs1 → Rel S' A' b' → W p l e room_1 s m #[Value.ref bs] below meth c H1 locs1 cells slots Q (F0 m 1008 ls [])) : W p l e room_1 s m #[Value.ref bs] below meth c H locs cells slots Q (F0 m 547 ls []) := by
  have hx := C.1
  have hb := C.2.1
  have hbA : ¬ nAr s.heap.size bs := Nat.not_le.mpr hbl
  have hA : ∀ q, s.heap.size ≤ q → nAr s.heap.size q := fun _ h => h
  refine lv_aload_n hx hb dL_law_547 rfl (lv_at hl 2 rfl) ?_
  refine lv_aload_n hx hb dL_law_548 rfl (lv_at hl 3 rfl) ?_
  refine lv_iload_n hx hb dL_law_549 rfl (lv_at hl 0 rfl) ?_
  refine lv_iconst (v := 1) hx hb dL_law_550 (by decide) ?_
  refine lv_iadd hx hb dL_law_551 ?_
  refine lv_as (show nI i + 1 = nI (i + 1) from nI_add i 1) ?_
  refine va_sld hx hb hX hbl hbA hM.2.2 (vp_in_nI (by omega) (by omega)) dL_law_552 ?_
  refine lv_as (show xs (nI (i + 1)).toNatClampNeg = xs (i + 1) by rw [nI_clamp (by omega)]) ?_
  refine lv_aload_n hx hb dL_law_553 rfl (lv_at hl 3 rfl) ?_
  refine lv_iload_n hx hb dL_law_554 rfl (lv_at hl 0 rfl) ?_
  refine lv_iconst (v := 2) hx hb dL_law_555 (by decide) ?_
  refine lv_iadd hx hb dL_law_556 ?_
  refine lv_as (show nI i + 2 = nI (i + 2) from nI_add i 2) ?_
  refine va_sld hx hb hX hbl hbA hM.2.2 (vp_in_nI (by omega) (by omega)) dL_law_557 ?_
  refine lv_as (show xs (nI (i + 2)).toNatClampNeg = xs (i + 2) by rw [nI_clamp (by omega)]) ?_
  obtain ⟨post, K1, h1⟩ := st_lies E ad l hR (xs (i + 1)) (xs (i + 2))
  refine q_callVI (n := 2) (o := 0) (As := [.int (xs (i + 1)), .int (xs (i + 2))]) (rest := []) C hM hA K1 (qmem_10 E ad S A b (by decide +kernel)) (by decide) rfl gL_law_X10_lies rfl rfl rfl (by decide +kernel) ⟨(Nat.le_of_ble_eq_true rfl), (Nat.le_of_ble_eq_true rfl)⟩ rfl hl.1 rfl (Nat.le_of_ble_eq_true rfl) ⟨hc.1, hc.2⟩ dL_law_558 (fun r S1 A1 b1 H locs hp hM => ?_)
  obtain ⟨post2, K2, h2⟩ := h1 r S1 A1 b1 hp
  refine lv_aload_n hx hb dL_law_561 rfl (lv_at hl 1 rfl) ?_
  refine lv_aload_n hx hb dL_law_562 rfl (lv_at hl 3 rfl) ?_
  refine lv_iload_n hx hb dL_law_563 rfl (lv_at hl 0 rfl) ?_
  refine lv_iconst (v := 1) hx hb dL_law_564 (by decide) ?_
  refine lv_iadd hx hb dL_law_565 ?_
  refine lv_as (show nI i + 1 = nI (i + 1) from nI_add i 1) ?_
  refine va_sld hx hb hX hbl hbA hM.2.2 (vp_in_nI (by omega) (by omega)) dL_law_566 ?_
  refine lv_as (show xs (nI (i + 1)).toNatClampNeg = xs (i + 1) by rw [nI_clamp (by omega)]) ?_
  refine lv_aload_n hx hb dL_law_567 rfl (lv_at hl 3 rfl) ?_
  refine lv_iload_n hx hb dL_law_568 rfl (lv_at hl 0 rfl) ?_
  refine lv_iconst (v := 2) hx hb dL_law_569 (by decide) ?_
  refine lv_iadd hx hb dL_law_570 ?_
  refine lv_as (show nI i + 2 = nI (i + 2) from nI_add i 2) ?_
  refine va_sld hx hb hX hbl hbA hM.2.2 (vp_in_nI (by omega) (by omega)) dL_law_571 ?_
  refine lv_as (show xs (nI (i + 2)).toNatClampNeg = xs (i + 2) by rw [nI_clamp (by omega)]) ?_
  refine q_callVI (n := 2) (o := 188) (As := [.int (xs (i + 1)), .int (xs (i + 2))]) (rest := [.int r]) C hM hA K2 (qmem_11 E ad S1 A1 b1 (by decide +kernel)) (by decide) rfl gL_law_X11_lies rfl rfl rfl (by decide +kernel) ⟨(Nat.le_of_ble_eq_true rfl), (Nat.le_of_ble_eq_true rfl)⟩ rfl hl.1 rfl (Nat.le_of_ble_eq_true rfl) ⟨hc.1, hc.2⟩ dL_law_572 (fun r2 S2 A2 b2 H locs hp2 hM => ?_)
  obtain ⟨er, hR2⟩ := h2 r2 S2 A2 b2 hp2
  exact lv_icmp_eq (tgt := 1008) hx hb dL_law_575 (by decide) (fun _ => kk S2 A2 b2 H locs hM hR2) (fun z => absurd er z)
set_option maxHeartbeats 4000000 in
set_option maxRecDepth 100000 in
theorem lc_open {p : Program} {l : Launch} {e : Env} {s : State} {m : MethodId} {bs : Nat} {below : List Frame} {meth : Method} {c : Code} {H : Heap} {locs : List Loc} {cells slots : Nat} {Q : State → Prop} {ls : Array Slot} {E : qE} {ad : Nat → Nat} {S A : qA2} {b : qB} {L i : Nat} {xs : Nat → Int32} (C : qC E p s m #[Value.ref bs] meth c cL_law 4 wsL_law RL (some .boolean)) (hM : qM E ad S A b (nAr s.heap.size) s H locs) (hR : Rel S A b) (hX : va_X bs L xs s s.heap) (hbl : bs < s.heap.size) (hi : i + 4 ≤ L) (hL : L ≤ 2048) (hc : cells ≤ 600000 ∧ slots ≤ 7302250) (hl : lv_has ls 4 [(3, .int (nI i)), (2, .ref (ad 188)), (1, .ref (ad 0)), (0, .ref bs)])
    (kk : ∀ (S' A' : qA2) (b' : qB) (H1 : Heap) (locs1 : List Loc), qM E ad S' A' b' (nAr s.heap.size) s H1 locs1 → Rel S' A' b' → W p l e room_1 s m #[Value.ref bs] below meth c H1 locs1 cells slots Q (F0 m 1008 ls [])) : W p l e room_1 s m #[Value.ref bs] below meth c H locs cells slots Q (F0 m 580 ls []) := by
  have hx := C.1
  have hb := C.2.1
  have hbA : ¬ nAr s.heap.size bs := Nat.not_le.mpr hbl
  have hA : ∀ q, s.heap.size ≤ q → nAr s.heap.size q := fun _ h => h
  refine lv_aload_n hx hb dL_law_580 rfl (lv_at hl 2 rfl) ?_
  refine lv_aload_n hx hb dL_law_581 rfl (lv_at hl 3 rfl) ?_
  refine lv_iload_n hx hb dL_law_582 rfl (lv_at hl 0 rfl) ?_
  refine lv_iconst (v := 1) hx hb dL_law_583 (by decide) ?_
  refine lv_iadd hx hb dL_law_584 ?_
  refine lv_as (show nI i + 1 = nI (i + 1) from nI_add i 1) ?_
  refine va_sld hx hb hX hbl hbA hM.2.2 (vp_in_nI (by omega) (by omega)) dL_law_585 ?_
  refine lv_as (show xs (nI (i + 1)).toNatClampNeg = xs (i + 1) by rw [nI_clamp (by omega)]) ?_
  obtain ⟨post, K1, h1⟩ := st_open E ad l hR (xs (i + 1))
  refine q_callVI (n := 1) (o := 0) (As := [.int (xs (i + 1))]) (rest := []) C hM hA K1 (qmem_10 E ad S A b (by decide +kernel)) (by decide) rfl gL_law_X10_open rfl rfl rfl (by decide +kernel) ⟨(Nat.le_of_ble_eq_true rfl), (Nat.le_of_ble_eq_true rfl)⟩ rfl hl.1 rfl (Nat.le_of_ble_eq_true rfl) ⟨hc.1, hc.2⟩ dL_law_586 (fun r S1 A1 b1 H locs hp hM => ?_)
  obtain ⟨post2, K2, h2⟩ := h1 r S1 A1 b1 hp
  refine lv_aload_n hx hb dL_law_589 rfl (lv_at hl 1 rfl) ?_
  refine lv_aload_n hx hb dL_law_590 rfl (lv_at hl 3 rfl) ?_
  refine lv_iload_n hx hb dL_law_591 rfl (lv_at hl 0 rfl) ?_
  refine lv_iconst (v := 1) hx hb dL_law_592 (by decide) ?_
  refine lv_iadd hx hb dL_law_593 ?_
  refine lv_as (show nI i + 1 = nI (i + 1) from nI_add i 1) ?_
  refine va_sld hx hb hX hbl hbA hM.2.2 (vp_in_nI (by omega) (by omega)) dL_law_594 ?_
  refine lv_as (show xs (nI (i + 1)).toNatClampNeg = xs (i + 1) by rw [nI_clamp (by omega)]) ?_
  refine q_callVI (n := 1) (o := 188) (As := [.int (xs (i + 1))]) (rest := [.int r]) C hM hA K2 (qmem_11 E ad S1 A1 b1 (by decide +kernel)) (by decide) rfl gL_law_X11_open rfl rfl rfl (by decide +kernel) ⟨(Nat.le_of_ble_eq_true rfl), (Nat.le_of_ble_eq_true rfl)⟩ rfl hl.1 rfl (Nat.le_of_ble_eq_true rfl) ⟨hc.1, hc.2⟩ dL_law_595 (fun r2 S2 A2 b2 H locs hp2 hM => ?_)
  obtain ⟨er, hR2⟩ := h2 r2 S2 A2 b2 hp2
  exact lv_icmp_eq (tgt := 1008) hx hb dL_law_598 (by decide) (fun _ => kk S2 A2 b2 H locs hM hR2) (fun z => absurd er z)
set_option maxHeartbeats 4000000 in
set_option maxRecDepth 100000 in
theorem lc_worth {p : Program} {l : Launch} {e : Env} {s : State} {m : MethodId} {bs : Nat} {below : List Frame} {meth : Method} {c : Code} {H : Heap} {locs : List Loc} {cells slots : Nat} {Q : State → Prop} {ls : Array Slot} {E : qE} {ad : Nat → Nat} {S A : qA2} {b : qB} {L i : Nat} {xs : Nat → Int32} (C : qC E p s m #[Value.ref bs] meth c cL_law 4 wsL_law RL (some .boolean)) (hM : qM E ad S A b (nAr s.heap.size) s H locs) (hR : Rel S A b) (hX : va_X bs L xs s s.heap) (hbl : bs < s.heap.size) (hi : i + 4 ≤ L) (hL : L ≤ 2048) (hc : cells ≤ 600000 ∧ slots ≤ 7302250) (hl : lv_has ls 4 [(3, .int (nI i)), (2, .ref (ad 188)), (1, .ref (ad 0)), (0, .ref bs)])
    (kk : ∀ (S' A' : qA2) (b' : qB) (H1 : Heap) (locs1 : List Loc), qM E ad S' A' b' (nAr s.heap.size) s H1 locs1 → Rel S' A' b' → W p l e room_1 s m #[Value.ref bs] below meth c H1 locs1 cells slots Q (F0 m 1008 ls [])) : W p l e room_1 s m #[Value.ref bs] below meth c H locs cells slots Q (F0 m 603 ls []) := by
  have hx := C.1
  have hb := C.2.1
  have hbA : ¬ nAr s.heap.size bs := Nat.not_le.mpr hbl
  have hA : ∀ q, s.heap.size ≤ q → nAr s.heap.size q := fun _ h => h
  refine lv_aload_n hx hb dL_law_603 rfl (lv_at hl 2 rfl) ?_
  refine lv_aload_n hx hb dL_law_604 rfl (lv_at hl 3 rfl) ?_
  refine lv_iload_n hx hb dL_law_605 rfl (lv_at hl 0 rfl) ?_
  refine lv_iconst (v := 1) hx hb dL_law_606 (by decide) ?_
  refine lv_iadd hx hb dL_law_607 ?_
  refine lv_as (show nI i + 1 = nI (i + 1) from nI_add i 1) ?_
  refine va_sld hx hb hX hbl hbA hM.2.2 (vp_in_nI (by omega) (by omega)) dL_law_608 ?_
  refine lv_as (show xs (nI (i + 1)).toNatClampNeg = xs (i + 1) by rw [nI_clamp (by omega)]) ?_
  refine lv_aload_n hx hb dL_law_609 rfl (lv_at hl 3 rfl) ?_
  refine lv_iload_n hx hb dL_law_610 rfl (lv_at hl 0 rfl) ?_
  refine lv_iconst (v := 2) hx hb dL_law_611 (by decide) ?_
  refine lv_iadd hx hb dL_law_612 ?_
  refine lv_as (show nI i + 2 = nI (i + 2) from nI_add i 2) ?_
  refine va_sld hx hb hX hbl hbA hM.2.2 (vp_in_nI (by omega) (by omega)) dL_law_613 ?_
  refine lv_as (show xs (nI (i + 2)).toNatClampNeg = xs (i + 2) by rw [nI_clamp (by omega)]) ?_
  obtain ⟨post, K1, h1⟩ := st_worth E ad l hR (xs (i + 1)) (xs (i + 2))
  refine q_callVI (n := 2) (o := 0) (As := [.int (xs (i + 1)), .int (xs (i + 2))]) (rest := []) C hM hA K1 (qmem_10 E ad S A b (by decide +kernel)) (by decide) rfl gL_law_X10_worth rfl rfl rfl (by decide +kernel) ⟨(Nat.le_of_ble_eq_true rfl), (Nat.le_of_ble_eq_true rfl)⟩ rfl hl.1 rfl (Nat.le_of_ble_eq_true rfl) ⟨hc.1, hc.2⟩ dL_law_614 (fun r S1 A1 b1 H locs hp hM => ?_)
  obtain ⟨post2, K2, h2⟩ := h1 r S1 A1 b1 hp
  refine lv_aload_n hx hb dL_law_617 rfl (lv_at hl 1 rfl) ?_
  refine lv_aload_n hx hb dL_law_618 rfl (lv_at hl 3 rfl) ?_
  refine lv_iload_n hx hb dL_law_619 rfl (lv_at hl 0 rfl) ?_
  refine lv_iconst (v := 1) hx hb dL_law_620 (by decide) ?_
  refine lv_iadd hx hb dL_law_621 ?_
  refine lv_as (show nI i + 1 = nI (i + 1) from nI_add i 1) ?_
  refine va_sld hx hb hX hbl hbA hM.2.2 (vp_in_nI (by omega) (by omega)) dL_law_622 ?_
  refine lv_as (show xs (nI (i + 1)).toNatClampNeg = xs (i + 1) by rw [nI_clamp (by omega)]) ?_
  refine lv_aload_n hx hb dL_law_623 rfl (lv_at hl 3 rfl) ?_
  refine lv_iload_n hx hb dL_law_624 rfl (lv_at hl 0 rfl) ?_
  refine lv_iconst (v := 2) hx hb dL_law_625 (by decide) ?_
  refine lv_iadd hx hb dL_law_626 ?_
  refine lv_as (show nI i + 2 = nI (i + 2) from nI_add i 2) ?_
  refine va_sld hx hb hX hbl hbA hM.2.2 (vp_in_nI (by omega) (by omega)) dL_law_627 ?_
  refine lv_as (show xs (nI (i + 2)).toNatClampNeg = xs (i + 2) by rw [nI_clamp (by omega)]) ?_
  refine q_callVI (n := 2) (o := 188) (As := [.int (xs (i + 1)), .int (xs (i + 2))]) (rest := [.int r]) C hM hA K2 (qmem_11 E ad S1 A1 b1 (by decide +kernel)) (by decide) rfl gL_law_X11_worth rfl rfl rfl (by decide +kernel) ⟨(Nat.le_of_ble_eq_true rfl), (Nat.le_of_ble_eq_true rfl)⟩ rfl hl.1 rfl (Nat.le_of_ble_eq_true rfl) ⟨hc.1, hc.2⟩ dL_law_628 (fun r2 S2 A2 b2 H locs hp2 hM => ?_)
  obtain ⟨er, hR2⟩ := h2 r2 S2 A2 b2 hp2
  exact lv_icmp_eq (tgt := 1008) hx hb dL_law_631 (by decide) (fun _ => kk S2 A2 b2 H locs hM hR2) (fun z => absurd er z)
set_option maxHeartbeats 4000000 in
set_option maxRecDepth 100000 in
theorem lc_lets {p : Program} {l : Launch} {e : Env} {s : State} {m : MethodId} {bs : Nat} {below : List Frame} {meth : Method} {c : Code} {H : Heap} {locs : List Loc} {cells slots : Nat} {Q : State → Prop} {ls : Array Slot} {E : qE} {ad : Nat → Nat} {S A : qA2} {b : qB} {L i : Nat} {xs : Nat → Int32} (C : qC E p s m #[Value.ref bs] meth c cL_law 4 wsL_law RL (some .boolean)) (hM : qM E ad S A b (nAr s.heap.size) s H locs) (hR : Rel S A b) (hX : va_X bs L xs s s.heap) (hbl : bs < s.heap.size) (hi : i + 4 ≤ L) (hL : L ≤ 2048) (hc : cells ≤ 600000 ∧ slots ≤ 7302250) (hl : lv_has ls 4 [(3, .int (nI i)), (2, .ref (ad 188)), (1, .ref (ad 0)), (0, .ref bs)])
    (kk : ∀ (S' A' : qA2) (b' : qB) (H1 : Heap) (locs1 : List Loc), qM E ad S' A' b' (nAr s.heap.size) s H1 locs1 → Rel S' A' b' → W p l e room_1 s m #[Value.ref bs] below meth c H1 locs1 cells slots Q (F0 m 1008 ls [])) : W p l e room_1 s m #[Value.ref bs] below meth c H locs cells slots Q (F0 m 636 ls []) := by
  have hx := C.1
  have hb := C.2.1
  have hbA : ¬ nAr s.heap.size bs := Nat.not_le.mpr hbl
  have hA : ∀ q, s.heap.size ≤ q → nAr s.heap.size q := fun _ h => h
  refine lv_aload_n hx hb dL_law_636 rfl (lv_at hl 2 rfl) ?_
  refine lv_aload_n hx hb dL_law_637 rfl (lv_at hl 3 rfl) ?_
  refine lv_iload_n hx hb dL_law_638 rfl (lv_at hl 0 rfl) ?_
  refine lv_iconst (v := 1) hx hb dL_law_639 (by decide) ?_
  refine lv_iadd hx hb dL_law_640 ?_
  refine lv_as (show nI i + 1 = nI (i + 1) from nI_add i 1) ?_
  refine va_sld hx hb hX hbl hbA hM.2.2 (vp_in_nI (by omega) (by omega)) dL_law_641 ?_
  refine lv_as (show xs (nI (i + 1)).toNatClampNeg = xs (i + 1) by rw [nI_clamp (by omega)]) ?_
  refine lv_aload_n hx hb dL_law_642 rfl (lv_at hl 3 rfl) ?_
  refine lv_iload_n hx hb dL_law_643 rfl (lv_at hl 0 rfl) ?_
  refine lv_iconst (v := 2) hx hb dL_law_644 (by decide) ?_
  refine lv_iadd hx hb dL_law_645 ?_
  refine lv_as (show nI i + 2 = nI (i + 2) from nI_add i 2) ?_
  refine va_sld hx hb hX hbl hbA hM.2.2 (vp_in_nI (by omega) (by omega)) dL_law_646 ?_
  refine lv_as (show xs (nI (i + 2)).toNatClampNeg = xs (i + 2) by rw [nI_clamp (by omega)]) ?_
  obtain ⟨post, K1, h1⟩ := st_lets E ad l hR (xs (i + 1)) (xs (i + 2))
  refine q_callVI (n := 2) (o := 0) (As := [.int (xs (i + 1)), .int (xs (i + 2))]) (rest := []) C hM hA K1 (qmem_10 E ad S A b (by decide +kernel)) (by decide) rfl gL_law_X10_lets rfl rfl rfl (by decide +kernel) ⟨(Nat.le_of_ble_eq_true rfl), (Nat.le_of_ble_eq_true rfl)⟩ rfl hl.1 rfl (Nat.le_of_ble_eq_true rfl) ⟨hc.1, hc.2⟩ dL_law_647 (fun r S1 A1 b1 H locs hp hM => ?_)
  obtain ⟨post2, K2, h2⟩ := h1 r S1 A1 b1 hp
  refine lv_aload_n hx hb dL_law_650 rfl (lv_at hl 1 rfl) ?_
  refine lv_aload_n hx hb dL_law_651 rfl (lv_at hl 3 rfl) ?_
  refine lv_iload_n hx hb dL_law_652 rfl (lv_at hl 0 rfl) ?_
  refine lv_iconst (v := 1) hx hb dL_law_653 (by decide) ?_
  refine lv_iadd hx hb dL_law_654 ?_
  refine lv_as (show nI i + 1 = nI (i + 1) from nI_add i 1) ?_
  refine va_sld hx hb hX hbl hbA hM.2.2 (vp_in_nI (by omega) (by omega)) dL_law_655 ?_
  refine lv_as (show xs (nI (i + 1)).toNatClampNeg = xs (i + 1) by rw [nI_clamp (by omega)]) ?_
  refine lv_aload_n hx hb dL_law_656 rfl (lv_at hl 3 rfl) ?_
  refine lv_iload_n hx hb dL_law_657 rfl (lv_at hl 0 rfl) ?_
  refine lv_iconst (v := 2) hx hb dL_law_658 (by decide) ?_
  refine lv_iadd hx hb dL_law_659 ?_
  refine lv_as (show nI i + 2 = nI (i + 2) from nI_add i 2) ?_
  refine va_sld hx hb hX hbl hbA hM.2.2 (vp_in_nI (by omega) (by omega)) dL_law_660 ?_
  refine lv_as (show xs (nI (i + 2)).toNatClampNeg = xs (i + 2) by rw [nI_clamp (by omega)]) ?_
  refine q_callVI (n := 2) (o := 188) (As := [.int (xs (i + 1)), .int (xs (i + 2))]) (rest := [.int r]) C hM hA K2 (qmem_11 E ad S1 A1 b1 (by decide +kernel)) (by decide) rfl gL_law_X11_lets rfl rfl rfl (by decide +kernel) ⟨(Nat.le_of_ble_eq_true rfl), (Nat.le_of_ble_eq_true rfl)⟩ rfl hl.1 rfl (Nat.le_of_ble_eq_true rfl) ⟨hc.1, hc.2⟩ dL_law_661 (fun r2 S2 A2 b2 H locs hp2 hM => ?_)
  obtain ⟨er, hR2⟩ := h2 r2 S2 A2 b2 hp2
  exact lv_icmp_eq (tgt := 1008) hx hb dL_law_664 (by decide) (fun _ => kk S2 A2 b2 H locs hM hR2) (fun z => absurd er z)
set_option maxHeartbeats 4000000 in
set_option maxRecDepth 100000 in
theorem lc_fewest {p : Program} {l : Launch} {e : Env} {s : State} {m : MethodId} {bs : Nat} {below : List Frame} {meth : Method} {c : Code} {H : Heap} {locs : List Loc} {cells slots : Nat} {Q : State → Prop} {ls : Array Slot} {E : qE} {ad : Nat → Nat} {S A : qA2} {b : qB} {L i : Nat} {xs : Nat → Int32} (C : qC E p s m #[Value.ref bs] meth c cL_law 4 wsL_law RL (some .boolean)) (hM : qM E ad S A b (nAr s.heap.size) s H locs) (hR : Rel S A b) (hX : va_X bs L xs s s.heap) (hbl : bs < s.heap.size) (hi : i + 4 ≤ L) (hL : L ≤ 2048) (hc : cells ≤ 600000 ∧ slots ≤ 7302250) (hl : lv_has ls 4 [(3, .int (nI i)), (2, .ref (ad 188)), (1, .ref (ad 0)), (0, .ref bs)])
    (kk : ∀ (S' A' : qA2) (b' : qB) (H1 : Heap) (locs1 : List Loc), qM E ad S' A' b' (nAr s.heap.size) s H1 locs1 → Rel S' A' b' → W p l e room_1 s m #[Value.ref bs] below meth c H1 locs1 cells slots Q (F0 m 1008 ls [])) : W p l e room_1 s m #[Value.ref bs] below meth c H locs cells slots Q (F0 m 669 ls []) := by
  have hx := C.1
  have hb := C.2.1
  have hbA : ¬ nAr s.heap.size bs := Nat.not_le.mpr hbl
  have hA : ∀ q, s.heap.size ≤ q → nAr s.heap.size q := fun _ h => h
  refine lv_aload_n hx hb dL_law_669 rfl (lv_at hl 2 rfl) ?_
  refine lv_aload_n hx hb dL_law_670 rfl (lv_at hl 3 rfl) ?_
  refine lv_iload_n hx hb dL_law_671 rfl (lv_at hl 0 rfl) ?_
  refine lv_iconst (v := 1) hx hb dL_law_672 (by decide) ?_
  refine lv_iadd hx hb dL_law_673 ?_
  refine lv_as (show nI i + 1 = nI (i + 1) from nI_add i 1) ?_
  refine va_sld hx hb hX hbl hbA hM.2.2 (vp_in_nI (by omega) (by omega)) dL_law_674 ?_
  refine lv_as (show xs (nI (i + 1)).toNatClampNeg = xs (i + 1) by rw [nI_clamp (by omega)]) ?_
  obtain ⟨post, K1, h1⟩ := st_fewest E ad l hR (xs (i + 1))
  refine q_callVI (n := 1) (o := 0) (As := [.int (xs (i + 1))]) (rest := []) C hM hA K1 (qmem_10 E ad S A b (by decide +kernel)) (by decide) rfl gL_law_X10_fewest rfl rfl rfl (by decide +kernel) ⟨(Nat.le_of_ble_eq_true rfl), (Nat.le_of_ble_eq_true rfl)⟩ rfl hl.1 rfl (Nat.le_of_ble_eq_true rfl) ⟨hc.1, hc.2⟩ dL_law_675 (fun r S1 A1 b1 H locs hp hM => ?_)
  obtain ⟨post2, K2, h2⟩ := h1 r S1 A1 b1 hp
  refine lv_aload_n hx hb dL_law_678 rfl (lv_at hl 1 rfl) ?_
  refine lv_aload_n hx hb dL_law_679 rfl (lv_at hl 3 rfl) ?_
  refine lv_iload_n hx hb dL_law_680 rfl (lv_at hl 0 rfl) ?_
  refine lv_iconst (v := 1) hx hb dL_law_681 (by decide) ?_
  refine lv_iadd hx hb dL_law_682 ?_
  refine lv_as (show nI i + 1 = nI (i + 1) from nI_add i 1) ?_
  refine va_sld hx hb hX hbl hbA hM.2.2 (vp_in_nI (by omega) (by omega)) dL_law_683 ?_
  refine lv_as (show xs (nI (i + 1)).toNatClampNeg = xs (i + 1) by rw [nI_clamp (by omega)]) ?_
  refine q_callVI (n := 1) (o := 188) (As := [.int (xs (i + 1))]) (rest := [.int r]) C hM hA K2 (qmem_11 E ad S1 A1 b1 (by decide +kernel)) (by decide) rfl gL_law_X11_fewest rfl rfl rfl (by decide +kernel) ⟨(Nat.le_of_ble_eq_true rfl), (Nat.le_of_ble_eq_true rfl)⟩ rfl hl.1 rfl (Nat.le_of_ble_eq_true rfl) ⟨hc.1, hc.2⟩ dL_law_684 (fun r2 S2 A2 b2 H locs hp2 hM => ?_)
  obtain ⟨er, hR2⟩ := h2 r2 S2 A2 b2 hp2
  exact lv_icmp_eq (tgt := 1008) hx hb dL_law_687 (by decide) (fun _ => kk S2 A2 b2 H locs hM hR2) (fun z => absurd er z)
set_option maxHeartbeats 4000000 in
set_option maxRecDepth 100000 in
theorem lc_yard {p : Program} {l : Launch} {e : Env} {s : State} {m : MethodId} {bs : Nat} {below : List Frame} {meth : Method} {c : Code} {H : Heap} {locs : List Loc} {cells slots : Nat} {Q : State → Prop} {ls : Array Slot} {E : qE} {ad : Nat → Nat} {S A : qA2} {b : qB} {L i : Nat} {xs : Nat → Int32} (C : qC E p s m #[Value.ref bs] meth c cL_law 4 wsL_law RL (some .boolean)) (hM : qM E ad S A b (nAr s.heap.size) s H locs) (hR : Rel S A b) (hX : va_X bs L xs s s.heap) (hbl : bs < s.heap.size) (hi : i + 4 ≤ L) (hL : L ≤ 2048) (hc : cells ≤ 600000 ∧ slots ≤ 7302250) (hl : lv_has ls 4 [(3, .int (nI i)), (2, .ref (ad 188)), (1, .ref (ad 0)), (0, .ref bs)])
    (kk : ∀ (S' A' : qA2) (b' : qB) (H1 : Heap) (locs1 : List Loc), qM E ad S' A' b' (nAr s.heap.size) s H1 locs1 → Rel S' A' b' → W p l e room_1 s m #[Value.ref bs] below meth c H1 locs1 cells slots Q (F0 m 1008 ls [])) : W p l e room_1 s m #[Value.ref bs] below meth c H locs cells slots Q (F0 m 692 ls []) := by
  have hx := C.1
  have hb := C.2.1
  have hbA : ¬ nAr s.heap.size bs := Nat.not_le.mpr hbl
  have hA : ∀ q, s.heap.size ≤ q → nAr s.heap.size q := fun _ h => h
  refine lv_aload_n hx hb dL_law_692 rfl (lv_at hl 2 rfl) ?_
  refine lv_aload_n hx hb dL_law_693 rfl (lv_at hl 3 rfl) ?_
  refine lv_iload_n hx hb dL_law_694 rfl (lv_at hl 0 rfl) ?_
  refine lv_iconst (v := 1) hx hb dL_law_695 (by decide) ?_
  refine lv_iadd hx hb dL_law_696 ?_
  refine lv_as (show nI i + 1 = nI (i + 1) from nI_add i 1) ?_
  refine va_sld hx hb hX hbl hbA hM.2.2 (vp_in_nI (by omega) (by omega)) dL_law_697 ?_
  refine lv_as (show xs (nI (i + 1)).toNatClampNeg = xs (i + 1) by rw [nI_clamp (by omega)]) ?_
  refine lv_aload_n hx hb dL_law_698 rfl (lv_at hl 3 rfl) ?_
  refine lv_iload_n hx hb dL_law_699 rfl (lv_at hl 0 rfl) ?_
  refine lv_iconst (v := 2) hx hb dL_law_700 (by decide) ?_
  refine lv_iadd hx hb dL_law_701 ?_
  refine lv_as (show nI i + 2 = nI (i + 2) from nI_add i 2) ?_
  refine va_sld hx hb hX hbl hbA hM.2.2 (vp_in_nI (by omega) (by omega)) dL_law_702 ?_
  refine lv_as (show xs (nI (i + 2)).toNatClampNeg = xs (i + 2) by rw [nI_clamp (by omega)]) ?_
  refine lv_aload_n hx hb dL_law_703 rfl (lv_at hl 3 rfl) ?_
  refine lv_iload_n hx hb dL_law_704 rfl (lv_at hl 0 rfl) ?_
  refine lv_iconst (v := 3) hx hb dL_law_705 (by decide) ?_
  refine lv_iadd hx hb dL_law_706 ?_
  refine lv_as (show nI i + 3 = nI (i + 3) from nI_add i 3) ?_
  refine va_sld hx hb hX hbl hbA hM.2.2 (vp_in_nI (by omega) (by omega)) dL_law_707 ?_
  refine lv_as (show xs (nI (i + 3)).toNatClampNeg = xs (i + 3) by rw [nI_clamp (by omega)]) ?_
  obtain ⟨post, K1, h1⟩ := st_yard E ad l hR (xs (i + 1)) (xs (i + 2)) (xs (i + 3))
  refine q_callVI (n := 3) (o := 0) (As := [.int (xs (i + 1)), .int (xs (i + 2)), .int (xs (i + 3))]) (rest := []) C hM hA K1 (qmem_10 E ad S A b (by decide +kernel)) (by decide) rfl gL_law_X10_yard rfl rfl rfl (by decide +kernel) ⟨(Nat.le_of_ble_eq_true rfl), (Nat.le_of_ble_eq_true rfl)⟩ rfl hl.1 rfl (Nat.le_of_ble_eq_true rfl) ⟨hc.1, hc.2⟩ dL_law_708 (fun r S1 A1 b1 H locs hp hM => ?_)
  obtain ⟨post2, K2, h2⟩ := h1 r S1 A1 b1 hp
  refine lv_aload_n hx hb dL_law_711 rfl (lv_at hl 1 rfl) ?_
  refine lv_aload_n hx hb dL_law_712 rfl (lv_at hl 3 rfl) ?_
  refine lv_iload_n hx hb dL_law_713 rfl (lv_at hl 0 rfl) ?_
  refine lv_iconst (v := 1) hx hb dL_law_714 (by decide) ?_
  refine lv_iadd hx hb dL_law_715 ?_
  refine lv_as (show nI i + 1 = nI (i + 1) from nI_add i 1) ?_
  refine va_sld hx hb hX hbl hbA hM.2.2 (vp_in_nI (by omega) (by omega)) dL_law_716 ?_
  refine lv_as (show xs (nI (i + 1)).toNatClampNeg = xs (i + 1) by rw [nI_clamp (by omega)]) ?_
  refine lv_aload_n hx hb dL_law_717 rfl (lv_at hl 3 rfl) ?_
  refine lv_iload_n hx hb dL_law_718 rfl (lv_at hl 0 rfl) ?_
  refine lv_iconst (v := 2) hx hb dL_law_719 (by decide) ?_
  refine lv_iadd hx hb dL_law_720 ?_
  refine lv_as (show nI i + 2 = nI (i + 2) from nI_add i 2) ?_
  refine va_sld hx hb hX hbl hbA hM.2.2 (vp_in_nI (by omega) (by omega)) dL_law_721 ?_
  refine lv_as (show xs (nI (i + 2)).toNatClampNeg = xs (i + 2) by rw [nI_clamp (by omega)]) ?_
  refine lv_aload_n hx hb dL_law_722 rfl (lv_at hl 3 rfl) ?_
  refine lv_iload_n hx hb dL_law_723 rfl (lv_at hl 0 rfl) ?_
  refine lv_iconst (v := 3) hx hb dL_law_724 (by decide) ?_
  refine lv_iadd hx hb dL_law_725 ?_
  refine lv_as (show nI i + 3 = nI (i + 3) from nI_add i 3) ?_
  refine va_sld hx hb hX hbl hbA hM.2.2 (vp_in_nI (by omega) (by omega)) dL_law_726 ?_
  refine lv_as (show xs (nI (i + 3)).toNatClampNeg = xs (i + 3) by rw [nI_clamp (by omega)]) ?_
  refine q_callVI (n := 3) (o := 188) (As := [.int (xs (i + 1)), .int (xs (i + 2)), .int (xs (i + 3))]) (rest := [.int r]) C hM hA K2 (qmem_11 E ad S1 A1 b1 (by decide +kernel)) (by decide) rfl gL_law_X11_yard rfl rfl rfl (by decide +kernel) ⟨(Nat.le_of_ble_eq_true rfl), (Nat.le_of_ble_eq_true rfl)⟩ rfl hl.1 rfl (Nat.le_of_ble_eq_true rfl) ⟨hc.1, hc.2⟩ dL_law_727 (fun r2 S2 A2 b2 H locs hp2 hM => ?_)
  obtain ⟨er, hR2⟩ := h2 r2 S2 A2 b2 hp2
  exact lv_icmp_eq (tgt := 1008) hx hb dL_law_730 (by decide) (fun _ => kk S2 A2 b2 H locs hM hR2) (fun z => absurd er z)
set_option maxHeartbeats 4000000 in
set_option maxRecDepth 100000 in
theorem lc_out {p : Program} {l : Launch} {e : Env} {s : State} {m : MethodId} {bs : Nat} {below : List Frame} {meth : Method} {c : Code} {H : Heap} {locs : List Loc} {cells slots : Nat} {Q : State → Prop} {ls : Array Slot} {E : qE} {ad : Nat → Nat} {S A : qA2} {b : qB} {L i : Nat} {xs : Nat → Int32} (C : qC E p s m #[Value.ref bs] meth c cL_law 4 wsL_law RL (some .boolean)) (hM : qM E ad S A b (nAr s.heap.size) s H locs) (hR : Rel S A b) (hX : va_X bs L xs s s.heap) (hbl : bs < s.heap.size) (hi : i + 4 ≤ L) (hL : L ≤ 2048) (hc : cells ≤ 600000 ∧ slots ≤ 7302250) (hl : lv_has ls 4 [(3, .int (nI i)), (2, .ref (ad 188)), (1, .ref (ad 0)), (0, .ref bs)])
    (kk : ∀ (S' A' : qA2) (b' : qB) (H1 : Heap) (locs1 : List Loc), qM E ad S' A' b' (nAr s.heap.size) s H1 locs1 → Rel S' A' b' → W p l e room_1 s m #[Value.ref bs] below meth c H1 locs1 cells slots Q (F0 m 1008 ls [])) : W p l e room_1 s m #[Value.ref bs] below meth c H locs cells slots Q (F0 m 735 ls []) := by
  have hx := C.1
  have hb := C.2.1
  have hbA : ¬ nAr s.heap.size bs := Nat.not_le.mpr hbl
  have hA : ∀ q, s.heap.size ≤ q → nAr s.heap.size q := fun _ h => h
  refine lv_aload_n hx hb dL_law_735 rfl (lv_at hl 2 rfl) ?_
  refine lv_aload_n hx hb dL_law_736 rfl (lv_at hl 3 rfl) ?_
  refine lv_iload_n hx hb dL_law_737 rfl (lv_at hl 0 rfl) ?_
  refine lv_iconst (v := 1) hx hb dL_law_738 (by decide) ?_
  refine lv_iadd hx hb dL_law_739 ?_
  refine lv_as (show nI i + 1 = nI (i + 1) from nI_add i 1) ?_
  refine va_sld hx hb hX hbl hbA hM.2.2 (vp_in_nI (by omega) (by omega)) dL_law_740 ?_
  refine lv_as (show xs (nI (i + 1)).toNatClampNeg = xs (i + 1) by rw [nI_clamp (by omega)]) ?_
  refine lv_aload_n hx hb dL_law_741 rfl (lv_at hl 3 rfl) ?_
  refine lv_iload_n hx hb dL_law_742 rfl (lv_at hl 0 rfl) ?_
  refine lv_iconst (v := 2) hx hb dL_law_743 (by decide) ?_
  refine lv_iadd hx hb dL_law_744 ?_
  refine lv_as (show nI i + 2 = nI (i + 2) from nI_add i 2) ?_
  refine va_sld hx hb hX hbl hbA hM.2.2 (vp_in_nI (by omega) (by omega)) dL_law_745 ?_
  refine lv_as (show xs (nI (i + 2)).toNatClampNeg = xs (i + 2) by rw [nI_clamp (by omega)]) ?_
  obtain ⟨post, K1, h1⟩ := st_out E ad l hR (xs (i + 1)) (xs (i + 2))
  refine q_callVI (n := 2) (o := 0) (As := [.int (xs (i + 1)), .int (xs (i + 2))]) (rest := []) C hM hA K1 (qmem_10 E ad S A b (by decide +kernel)) (by decide) rfl gL_law_X10_out rfl rfl rfl (by decide +kernel) ⟨(Nat.le_of_ble_eq_true rfl), (Nat.le_of_ble_eq_true rfl)⟩ rfl hl.1 rfl (Nat.le_of_ble_eq_true rfl) ⟨hc.1, hc.2⟩ dL_law_746 (fun r S1 A1 b1 H locs hp hM => ?_)
  obtain ⟨post2, K2, h2⟩ := h1 r S1 A1 b1 hp
  refine lv_aload_n hx hb dL_law_749 rfl (lv_at hl 1 rfl) ?_
  refine lv_aload_n hx hb dL_law_750 rfl (lv_at hl 3 rfl) ?_
  refine lv_iload_n hx hb dL_law_751 rfl (lv_at hl 0 rfl) ?_
  refine lv_iconst (v := 1) hx hb dL_law_752 (by decide) ?_
  refine lv_iadd hx hb dL_law_753 ?_
  refine lv_as (show nI i + 1 = nI (i + 1) from nI_add i 1) ?_
  refine va_sld hx hb hX hbl hbA hM.2.2 (vp_in_nI (by omega) (by omega)) dL_law_754 ?_
  refine lv_as (show xs (nI (i + 1)).toNatClampNeg = xs (i + 1) by rw [nI_clamp (by omega)]) ?_
  refine lv_aload_n hx hb dL_law_755 rfl (lv_at hl 3 rfl) ?_
  refine lv_iload_n hx hb dL_law_756 rfl (lv_at hl 0 rfl) ?_
  refine lv_iconst (v := 2) hx hb dL_law_757 (by decide) ?_
  refine lv_iadd hx hb dL_law_758 ?_
  refine lv_as (show nI i + 2 = nI (i + 2) from nI_add i 2) ?_
  refine va_sld hx hb hX hbl hbA hM.2.2 (vp_in_nI (by omega) (by omega)) dL_law_759 ?_
  refine lv_as (show xs (nI (i + 2)).toNatClampNeg = xs (i + 2) by rw [nI_clamp (by omega)]) ?_
  refine q_callVI (n := 2) (o := 188) (As := [.int (xs (i + 1)), .int (xs (i + 2))]) (rest := [.int r]) C hM hA K2 (qmem_11 E ad S1 A1 b1 (by decide +kernel)) (by decide) rfl gL_law_X11_out rfl rfl rfl (by decide +kernel) ⟨(Nat.le_of_ble_eq_true rfl), (Nat.le_of_ble_eq_true rfl)⟩ rfl hl.1 rfl (Nat.le_of_ble_eq_true rfl) ⟨hc.1, hc.2⟩ dL_law_760 (fun r2 S2 A2 b2 H locs hp2 hM => ?_)
  obtain ⟨er, hR2⟩ := h2 r2 S2 A2 b2 hp2
  exact lv_icmp_eq (tgt := 1008) hx hb dL_law_763 (by decide) (fun _ => kk S2 A2 b2 H locs hM hR2) (fun z => absurd er z)
set_option maxHeartbeats 4000000 in
set_option maxRecDepth 100000 in
theorem lc_still {p : Program} {l : Launch} {e : Env} {s : State} {m : MethodId} {bs : Nat} {below : List Frame} {meth : Method} {c : Code} {H : Heap} {locs : List Loc} {cells slots : Nat} {Q : State → Prop} {ls : Array Slot} {E : qE} {ad : Nat → Nat} {S A : qA2} {b : qB} {L i : Nat} {xs : Nat → Int32} (C : qC E p s m #[Value.ref bs] meth c cL_law 4 wsL_law RL (some .boolean)) (hM : qM E ad S A b (nAr s.heap.size) s H locs) (hR : Rel S A b) (hX : va_X bs L xs s s.heap) (hbl : bs < s.heap.size) (hi : i + 4 ≤ L) (hL : L ≤ 2048) (hc : cells ≤ 600000 ∧ slots ≤ 7302250) (hl : lv_has ls 4 [(3, .int (nI i)), (2, .ref (ad 188)), (1, .ref (ad 0)), (0, .ref bs)])
    (kk : ∀ (S' A' : qA2) (b' : qB) (H1 : Heap) (locs1 : List Loc), qM E ad S' A' b' (nAr s.heap.size) s H1 locs1 → Rel S' A' b' → W p l e room_1 s m #[Value.ref bs] below meth c H1 locs1 cells slots Q (F0 m 1008 ls [])) : W p l e room_1 s m #[Value.ref bs] below meth c H locs cells slots Q (F0 m 768 ls []) := by
  have hx := C.1
  have hb := C.2.1
  have hbA : ¬ nAr s.heap.size bs := Nat.not_le.mpr hbl
  have hA : ∀ q, s.heap.size ≤ q → nAr s.heap.size q := fun _ h => h
  refine lv_aload_n hx hb dL_law_768 rfl (lv_at hl 2 rfl) ?_
  refine lv_aload_n hx hb dL_law_769 rfl (lv_at hl 3 rfl) ?_
  refine lv_iload_n hx hb dL_law_770 rfl (lv_at hl 0 rfl) ?_
  refine lv_iconst (v := 1) hx hb dL_law_771 (by decide) ?_
  refine lv_iadd hx hb dL_law_772 ?_
  refine lv_as (show nI i + 1 = nI (i + 1) from nI_add i 1) ?_
  refine va_sld hx hb hX hbl hbA hM.2.2 (vp_in_nI (by omega) (by omega)) dL_law_773 ?_
  refine lv_as (show xs (nI (i + 1)).toNatClampNeg = xs (i + 1) by rw [nI_clamp (by omega)]) ?_
  refine lv_aload_n hx hb dL_law_774 rfl (lv_at hl 3 rfl) ?_
  refine lv_iload_n hx hb dL_law_775 rfl (lv_at hl 0 rfl) ?_
  refine lv_iconst (v := 2) hx hb dL_law_776 (by decide) ?_
  refine lv_iadd hx hb dL_law_777 ?_
  refine lv_as (show nI i + 2 = nI (i + 2) from nI_add i 2) ?_
  refine va_sld hx hb hX hbl hbA hM.2.2 (vp_in_nI (by omega) (by omega)) dL_law_778 ?_
  refine lv_as (show xs (nI (i + 2)).toNatClampNeg = xs (i + 2) by rw [nI_clamp (by omega)]) ?_
  obtain ⟨post, K1, h1⟩ := st_still E ad l hR (xs (i + 1)) (xs (i + 2))
  refine q_callVI (n := 2) (o := 0) (As := [.int (xs (i + 1)), .int (xs (i + 2))]) (rest := []) C hM hA K1 (qmem_10 E ad S A b (by decide +kernel)) (by decide) rfl gL_law_X10_still rfl rfl rfl (by decide +kernel) ⟨(Nat.le_of_ble_eq_true rfl), (Nat.le_of_ble_eq_true rfl)⟩ rfl hl.1 rfl (Nat.le_of_ble_eq_true rfl) ⟨hc.1, hc.2⟩ dL_law_779 (fun r S1 A1 b1 H locs hp hM => ?_)
  obtain ⟨post2, K2, h2⟩ := h1 r S1 A1 b1 hp
  refine lv_aload_n hx hb dL_law_782 rfl (lv_at hl 1 rfl) ?_
  refine lv_aload_n hx hb dL_law_783 rfl (lv_at hl 3 rfl) ?_
  refine lv_iload_n hx hb dL_law_784 rfl (lv_at hl 0 rfl) ?_
  refine lv_iconst (v := 1) hx hb dL_law_785 (by decide) ?_
  refine lv_iadd hx hb dL_law_786 ?_
  refine lv_as (show nI i + 1 = nI (i + 1) from nI_add i 1) ?_
  refine va_sld hx hb hX hbl hbA hM.2.2 (vp_in_nI (by omega) (by omega)) dL_law_787 ?_
  refine lv_as (show xs (nI (i + 1)).toNatClampNeg = xs (i + 1) by rw [nI_clamp (by omega)]) ?_
  refine lv_aload_n hx hb dL_law_788 rfl (lv_at hl 3 rfl) ?_
  refine lv_iload_n hx hb dL_law_789 rfl (lv_at hl 0 rfl) ?_
  refine lv_iconst (v := 2) hx hb dL_law_790 (by decide) ?_
  refine lv_iadd hx hb dL_law_791 ?_
  refine lv_as (show nI i + 2 = nI (i + 2) from nI_add i 2) ?_
  refine va_sld hx hb hX hbl hbA hM.2.2 (vp_in_nI (by omega) (by omega)) dL_law_792 ?_
  refine lv_as (show xs (nI (i + 2)).toNatClampNeg = xs (i + 2) by rw [nI_clamp (by omega)]) ?_
  refine q_callVI (n := 2) (o := 188) (As := [.int (xs (i + 1)), .int (xs (i + 2))]) (rest := [.int r]) C hM hA K2 (qmem_11 E ad S1 A1 b1 (by decide +kernel)) (by decide) rfl gL_law_X11_still rfl rfl rfl (by decide +kernel) ⟨(Nat.le_of_ble_eq_true rfl), (Nat.le_of_ble_eq_true rfl)⟩ rfl hl.1 rfl (Nat.le_of_ble_eq_true rfl) ⟨hc.1, hc.2⟩ dL_law_793 (fun r2 S2 A2 b2 H locs hp2 hM => ?_)
  obtain ⟨er, hR2⟩ := h2 r2 S2 A2 b2 hp2
  exact lv_icmp_eq (tgt := 1008) hx hb dL_law_796 (by decide) (fun _ => kk S2 A2 b2 H locs hM hR2) (fun z => absurd er z)
set_option maxHeartbeats 4000000 in
set_option maxRecDepth 100000 in
theorem lc_see {p : Program} {l : Launch} {e : Env} {s : State} {m : MethodId} {bs : Nat} {below : List Frame} {meth : Method} {c : Code} {H : Heap} {locs : List Loc} {cells slots : Nat} {Q : State → Prop} {ls : Array Slot} {E : qE} {ad : Nat → Nat} {S A : qA2} {b : qB} {L i : Nat} {xs : Nat → Int32} (C : qC E p s m #[Value.ref bs] meth c cL_law 4 wsL_law RL (some .boolean)) (hM : qM E ad S A b (nAr s.heap.size) s H locs) (hR : Rel S A b) (hX : va_X bs L xs s s.heap) (hbl : bs < s.heap.size) (hi : i + 4 ≤ L) (hL : L ≤ 2048) (hc : cells ≤ 600000 ∧ slots ≤ 7302250) (hl : lv_has ls 4 [(3, .int (nI i)), (2, .ref (ad 188)), (1, .ref (ad 0)), (0, .ref bs)])
    (kk : ∀ (S' A' : qA2) (b' : qB) (H1 : Heap) (locs1 : List Loc), qM E ad S' A' b' (nAr s.heap.size) s H1 locs1 → Rel S' A' b' → W p l e room_1 s m #[Value.ref bs] below meth c H1 locs1 cells slots Q (F0 m 1008 ls [])) : W p l e room_1 s m #[Value.ref bs] below meth c H locs cells slots Q (F0 m 801 ls []) := by
  have hx := C.1
  have hb := C.2.1
  have hbA : ¬ nAr s.heap.size bs := Nat.not_le.mpr hbl
  have hA : ∀ q, s.heap.size ≤ q → nAr s.heap.size q := fun _ h => h
  refine lv_aload_n hx hb dL_law_801 rfl (lv_at hl 2 rfl) ?_
  refine lv_aload_n hx hb dL_law_802 rfl (lv_at hl 3 rfl) ?_
  refine lv_iload_n hx hb dL_law_803 rfl (lv_at hl 0 rfl) ?_
  refine lv_iconst (v := 1) hx hb dL_law_804 (by decide) ?_
  refine lv_iadd hx hb dL_law_805 ?_
  refine lv_as (show nI i + 1 = nI (i + 1) from nI_add i 1) ?_
  refine va_sld hx hb hX hbl hbA hM.2.2 (vp_in_nI (by omega) (by omega)) dL_law_806 ?_
  refine lv_as (show xs (nI (i + 1)).toNatClampNeg = xs (i + 1) by rw [nI_clamp (by omega)]) ?_
  refine lv_aload_n hx hb dL_law_807 rfl (lv_at hl 3 rfl) ?_
  refine lv_iload_n hx hb dL_law_808 rfl (lv_at hl 0 rfl) ?_
  refine lv_iconst (v := 2) hx hb dL_law_809 (by decide) ?_
  refine lv_iadd hx hb dL_law_810 ?_
  refine lv_as (show nI i + 2 = nI (i + 2) from nI_add i 2) ?_
  refine va_sld hx hb hX hbl hbA hM.2.2 (vp_in_nI (by omega) (by omega)) dL_law_811 ?_
  refine lv_as (show xs (nI (i + 2)).toNatClampNeg = xs (i + 2) by rw [nI_clamp (by omega)]) ?_
  obtain ⟨post, K1, h1⟩ := st_see E ad l hR (xs (i + 1)) (xs (i + 2))
  refine q_callVI (n := 2) (o := 0) (As := [.int (xs (i + 1)), .int (xs (i + 2))]) (rest := []) C hM hA K1 (qmem_10 E ad S A b (by decide +kernel)) (by decide) rfl gL_law_X10_see rfl rfl rfl (by decide +kernel) ⟨(Nat.le_of_ble_eq_true rfl), (Nat.le_of_ble_eq_true rfl)⟩ rfl hl.1 rfl (Nat.le_of_ble_eq_true rfl) ⟨hc.1, hc.2⟩ dL_law_812 (fun r S1 A1 b1 H locs hp hM => ?_)
  obtain ⟨post2, K2, h2⟩ := h1 r S1 A1 b1 hp
  refine lv_aload_n hx hb dL_law_815 rfl (lv_at hl 1 rfl) ?_
  refine lv_aload_n hx hb dL_law_816 rfl (lv_at hl 3 rfl) ?_
  refine lv_iload_n hx hb dL_law_817 rfl (lv_at hl 0 rfl) ?_
  refine lv_iconst (v := 1) hx hb dL_law_818 (by decide) ?_
  refine lv_iadd hx hb dL_law_819 ?_
  refine lv_as (show nI i + 1 = nI (i + 1) from nI_add i 1) ?_
  refine va_sld hx hb hX hbl hbA hM.2.2 (vp_in_nI (by omega) (by omega)) dL_law_820 ?_
  refine lv_as (show xs (nI (i + 1)).toNatClampNeg = xs (i + 1) by rw [nI_clamp (by omega)]) ?_
  refine lv_aload_n hx hb dL_law_821 rfl (lv_at hl 3 rfl) ?_
  refine lv_iload_n hx hb dL_law_822 rfl (lv_at hl 0 rfl) ?_
  refine lv_iconst (v := 2) hx hb dL_law_823 (by decide) ?_
  refine lv_iadd hx hb dL_law_824 ?_
  refine lv_as (show nI i + 2 = nI (i + 2) from nI_add i 2) ?_
  refine va_sld hx hb hX hbl hbA hM.2.2 (vp_in_nI (by omega) (by omega)) dL_law_825 ?_
  refine lv_as (show xs (nI (i + 2)).toNatClampNeg = xs (i + 2) by rw [nI_clamp (by omega)]) ?_
  refine q_callVI (n := 2) (o := 188) (As := [.int (xs (i + 1)), .int (xs (i + 2))]) (rest := [.int r]) C hM hA K2 (qmem_11 E ad S1 A1 b1 (by decide +kernel)) (by decide) rfl gL_law_X11_see rfl rfl rfl (by decide +kernel) ⟨(Nat.le_of_ble_eq_true rfl), (Nat.le_of_ble_eq_true rfl)⟩ rfl hl.1 rfl (Nat.le_of_ble_eq_true rfl) ⟨hc.1, hc.2⟩ dL_law_826 (fun r2 S2 A2 b2 H locs hp2 hM => ?_)
  obtain ⟨er, hR2⟩ := h2 r2 S2 A2 b2 hp2
  exact lv_icmp_eq (tgt := 1008) hx hb dL_law_829 (by decide) (fun _ => kk S2 A2 b2 H locs hM hR2) (fun z => absurd er z)
set_option maxHeartbeats 4000000 in
set_option maxRecDepth 100000 in
theorem lc_sublets {p : Program} {l : Launch} {e : Env} {s : State} {m : MethodId} {bs : Nat} {below : List Frame} {meth : Method} {c : Code} {H : Heap} {locs : List Loc} {cells slots : Nat} {Q : State → Prop} {ls : Array Slot} {E : qE} {ad : Nat → Nat} {S A : qA2} {b : qB} {L i : Nat} {xs : Nat → Int32} (C : qC E p s m #[Value.ref bs] meth c cL_law 4 wsL_law RL (some .boolean)) (hM : qM E ad S A b (nAr s.heap.size) s H locs) (hR : Rel S A b) (hX : va_X bs L xs s s.heap) (hbl : bs < s.heap.size) (hi : i + 4 ≤ L) (hL : L ≤ 2048) (hc : cells ≤ 600000 ∧ slots ≤ 7302250) (hl : lv_has ls 4 [(3, .int (nI i)), (2, .ref (ad 188)), (1, .ref (ad 0)), (0, .ref bs)])
    (kk : ∀ (S' A' : qA2) (b' : qB) (H1 : Heap) (locs1 : List Loc), qM E ad S' A' b' (nAr s.heap.size) s H1 locs1 → Rel S' A' b' → W p l e room_1 s m #[Value.ref bs] below meth c H1 locs1 cells slots Q (F0 m 1008 ls [])) : W p l e room_1 s m #[Value.ref bs] below meth c H locs cells slots Q (F0 m 834 ls []) := by
  have hx := C.1
  have hb := C.2.1
  have hbA : ¬ nAr s.heap.size bs := Nat.not_le.mpr hbl
  have hA : ∀ q, s.heap.size ≤ q → nAr s.heap.size q := fun _ h => h
  refine lv_aload_n hx hb dL_law_834 rfl (lv_at hl 2 rfl) ?_
  refine lv_aload_n hx hb dL_law_835 rfl (lv_at hl 3 rfl) ?_
  refine lv_iload_n hx hb dL_law_836 rfl (lv_at hl 0 rfl) ?_
  refine lv_iconst (v := 1) hx hb dL_law_837 (by decide) ?_
  refine lv_iadd hx hb dL_law_838 ?_
  refine lv_as (show nI i + 1 = nI (i + 1) from nI_add i 1) ?_
  refine va_sld hx hb hX hbl hbA hM.2.2 (vp_in_nI (by omega) (by omega)) dL_law_839 ?_
  refine lv_as (show xs (nI (i + 1)).toNatClampNeg = xs (i + 1) by rw [nI_clamp (by omega)]) ?_
  obtain ⟨post, K1, h1⟩ := st_sublets E ad l hR (xs (i + 1))
  refine q_callVI (n := 1) (o := 0) (As := [.int (xs (i + 1))]) (rest := []) C hM hA K1 (qmem_10 E ad S A b (by decide +kernel)) (by decide) rfl gL_law_X10_sublets rfl rfl rfl (by decide +kernel) ⟨(Nat.le_of_ble_eq_true rfl), (Nat.le_of_ble_eq_true rfl)⟩ rfl hl.1 rfl (Nat.le_of_ble_eq_true rfl) ⟨hc.1, hc.2⟩ dL_law_840 (fun r S1 A1 b1 H locs hp hM => ?_)
  obtain ⟨post2, K2, h2⟩ := h1 r S1 A1 b1 hp
  refine lv_aload_n hx hb dL_law_843 rfl (lv_at hl 1 rfl) ?_
  refine lv_aload_n hx hb dL_law_844 rfl (lv_at hl 3 rfl) ?_
  refine lv_iload_n hx hb dL_law_845 rfl (lv_at hl 0 rfl) ?_
  refine lv_iconst (v := 1) hx hb dL_law_846 (by decide) ?_
  refine lv_iadd hx hb dL_law_847 ?_
  refine lv_as (show nI i + 1 = nI (i + 1) from nI_add i 1) ?_
  refine va_sld hx hb hX hbl hbA hM.2.2 (vp_in_nI (by omega) (by omega)) dL_law_848 ?_
  refine lv_as (show xs (nI (i + 1)).toNatClampNeg = xs (i + 1) by rw [nI_clamp (by omega)]) ?_
  refine q_callVI (n := 1) (o := 188) (As := [.int (xs (i + 1))]) (rest := [.int r]) C hM hA K2 (qmem_11 E ad S1 A1 b1 (by decide +kernel)) (by decide) rfl gL_law_X11_sublets rfl rfl rfl (by decide +kernel) ⟨(Nat.le_of_ble_eq_true rfl), (Nat.le_of_ble_eq_true rfl)⟩ rfl hl.1 rfl (Nat.le_of_ble_eq_true rfl) ⟨hc.1, hc.2⟩ dL_law_849 (fun r2 S2 A2 b2 H locs hp2 hM => ?_)
  obtain ⟨er, hR2⟩ := h2 r2 S2 A2 b2 hp2
  exact lv_icmp_eq (tgt := 1008) hx hb dL_law_852 (by decide) (fun _ => kk S2 A2 b2 H locs hM hR2) (fun z => absurd er z)
set_option maxHeartbeats 4000000 in
set_option maxRecDepth 100000 in
theorem lc_fit {p : Program} {l : Launch} {e : Env} {s : State} {m : MethodId} {bs : Nat} {below : List Frame} {meth : Method} {c : Code} {H : Heap} {locs : List Loc} {cells slots : Nat} {Q : State → Prop} {ls : Array Slot} {E : qE} {ad : Nat → Nat} {S A : qA2} {b : qB} {L i : Nat} {xs : Nat → Int32} (C : qC E p s m #[Value.ref bs] meth c cL_law 4 wsL_law RL (some .boolean)) (hM : qM E ad S A b (nAr s.heap.size) s H locs) (hR : Rel S A b) (hX : va_X bs L xs s s.heap) (hbl : bs < s.heap.size) (hi : i + 4 ≤ L) (hL : L ≤ 2048) (hc : cells ≤ 600000 ∧ slots ≤ 7302250) (hl : lv_has ls 4 [(3, .int (nI i)), (2, .ref (ad 188)), (1, .ref (ad 0)), (0, .ref bs)])
    (kk : ∀ (S' A' : qA2) (b' : qB) (H1 : Heap) (locs1 : List Loc), qM E ad S' A' b' (nAr s.heap.size) s H1 locs1 → Rel S' A' b' → W p l e room_1 s m #[Value.ref bs] below meth c H1 locs1 cells slots Q (F0 m 1008 ls [])) : W p l e room_1 s m #[Value.ref bs] below meth c H locs cells slots Q (F0 m 857 ls []) := by
  have hx := C.1
  have hb := C.2.1
  have hbA : ¬ nAr s.heap.size bs := Nat.not_le.mpr hbl
  have hA : ∀ q, s.heap.size ≤ q → nAr s.heap.size q := fun _ h => h
  refine lv_aload_n hx hb dL_law_857 rfl (lv_at hl 2 rfl) ?_
  refine lv_aload_n hx hb dL_law_858 rfl (lv_at hl 3 rfl) ?_
  refine lv_iload_n hx hb dL_law_859 rfl (lv_at hl 0 rfl) ?_
  refine lv_iconst (v := 1) hx hb dL_law_860 (by decide) ?_
  refine lv_iadd hx hb dL_law_861 ?_
  refine lv_as (show nI i + 1 = nI (i + 1) from nI_add i 1) ?_
  refine va_sld hx hb hX hbl hbA hM.2.2 (vp_in_nI (by omega) (by omega)) dL_law_862 ?_
  refine lv_as (show xs (nI (i + 1)).toNatClampNeg = xs (i + 1) by rw [nI_clamp (by omega)]) ?_
  obtain ⟨post, K1, h1⟩ := st_fit E ad l hR (xs (i + 1))
  refine q_callVI (n := 1) (o := 0) (As := [.int (xs (i + 1))]) (rest := []) C hM hA K1 (qmem_10 E ad S A b (by decide +kernel)) (by decide) rfl gL_law_X10_fit rfl rfl rfl (by decide +kernel) ⟨(Nat.le_of_ble_eq_true rfl), (Nat.le_of_ble_eq_true rfl)⟩ rfl hl.1 rfl (Nat.le_of_ble_eq_true rfl) ⟨hc.1, hc.2⟩ dL_law_863 (fun r S1 A1 b1 H locs hp hM => ?_)
  obtain ⟨post2, K2, h2⟩ := h1 r S1 A1 b1 hp
  refine lv_aload_n hx hb dL_law_866 rfl (lv_at hl 1 rfl) ?_
  refine lv_aload_n hx hb dL_law_867 rfl (lv_at hl 3 rfl) ?_
  refine lv_iload_n hx hb dL_law_868 rfl (lv_at hl 0 rfl) ?_
  refine lv_iconst (v := 1) hx hb dL_law_869 (by decide) ?_
  refine lv_iadd hx hb dL_law_870 ?_
  refine lv_as (show nI i + 1 = nI (i + 1) from nI_add i 1) ?_
  refine va_sld hx hb hX hbl hbA hM.2.2 (vp_in_nI (by omega) (by omega)) dL_law_871 ?_
  refine lv_as (show xs (nI (i + 1)).toNatClampNeg = xs (i + 1) by rw [nI_clamp (by omega)]) ?_
  refine q_callVI (n := 1) (o := 188) (As := [.int (xs (i + 1))]) (rest := [.int r]) C hM hA K2 (qmem_11 E ad S1 A1 b1 (by decide +kernel)) (by decide) rfl gL_law_X11_fit rfl rfl rfl (by decide +kernel) ⟨(Nat.le_of_ble_eq_true rfl), (Nat.le_of_ble_eq_true rfl)⟩ rfl hl.1 rfl (Nat.le_of_ble_eq_true rfl) ⟨hc.1, hc.2⟩ dL_law_872 (fun r2 S2 A2 b2 H locs hp2 hM => ?_)
  obtain ⟨er, hR2⟩ := h2 r2 S2 A2 b2 hp2
  exact lv_icmp_eq (tgt := 1008) hx hb dL_law_875 (by decide) (fun _ => kk S2 A2 b2 H locs hM hR2) (fun z => absurd er z)
set_option maxHeartbeats 4000000 in
set_option maxRecDepth 100000 in
theorem lc_write {p : Program} {l : Launch} {e : Env} {s : State} {m : MethodId} {bs : Nat} {below : List Frame} {meth : Method} {c : Code} {H : Heap} {locs : List Loc} {cells slots : Nat} {Q : State → Prop} {ls : Array Slot} {E : qE} {ad : Nat → Nat} {S A : qA2} {b : qB} {L i : Nat} {xs : Nat → Int32} (C : qC E p s m #[Value.ref bs] meth c cL_law 4 wsL_law RL (some .boolean)) (hM : qM E ad S A b (nAr s.heap.size) s H locs) (hR : Rel S A b) (hX : va_X bs L xs s s.heap) (hbl : bs < s.heap.size) (hi : i + 4 ≤ L) (hL : L ≤ 2048) (hc : cells ≤ 600000 ∧ slots ≤ 7302250) (hl : lv_has ls 4 [(3, .int (nI i)), (2, .ref (ad 188)), (1, .ref (ad 0)), (0, .ref bs)])
    (kk : ∀ (S' A' : qA2) (b' : qB) (H1 : Heap) (locs1 : List Loc), qM E ad S' A' b' (nAr s.heap.size) s H1 locs1 → Rel S' A' b' → W p l e room_1 s m #[Value.ref bs] below meth c H1 locs1 cells slots Q (F0 m 1008 ls [])) : W p l e room_1 s m #[Value.ref bs] below meth c H locs cells slots Q (F0 m 880 ls []) := by
  have hx := C.1
  have hb := C.2.1
  have hbA : ¬ nAr s.heap.size bs := Nat.not_le.mpr hbl
  have hA : ∀ q, s.heap.size ≤ q → nAr s.heap.size q := fun _ h => h
  refine lv_aload_n hx hb dL_law_880 rfl (lv_at hl 2 rfl) ?_
  refine lv_aload_n hx hb dL_law_881 rfl (lv_at hl 3 rfl) ?_
  refine lv_iload_n hx hb dL_law_882 rfl (lv_at hl 0 rfl) ?_
  refine lv_iconst (v := 1) hx hb dL_law_883 (by decide) ?_
  refine lv_iadd hx hb dL_law_884 ?_
  refine lv_as (show nI i + 1 = nI (i + 1) from nI_add i 1) ?_
  refine va_sld hx hb hX hbl hbA hM.2.2 (vp_in_nI (by omega) (by omega)) dL_law_885 ?_
  refine lv_as (show xs (nI (i + 1)).toNatClampNeg = xs (i + 1) by rw [nI_clamp (by omega)]) ?_
  refine lv_aload_n hx hb dL_law_886 rfl (lv_at hl 3 rfl) ?_
  refine lv_iload_n hx hb dL_law_887 rfl (lv_at hl 0 rfl) ?_
  refine lv_iconst (v := 2) hx hb dL_law_888 (by decide) ?_
  refine lv_iadd hx hb dL_law_889 ?_
  refine lv_as (show nI i + 2 = nI (i + 2) from nI_add i 2) ?_
  refine va_sld hx hb hX hbl hbA hM.2.2 (vp_in_nI (by omega) (by omega)) dL_law_890 ?_
  refine lv_as (show xs (nI (i + 2)).toNatClampNeg = xs (i + 2) by rw [nI_clamp (by omega)]) ?_
  obtain ⟨post, K1, h1⟩ := st_write E ad l hR (xs (i + 1)) (xs (i + 2))
  refine q_callVI (n := 2) (o := 0) (As := [.int (xs (i + 1)), .int (xs (i + 2))]) (rest := []) C hM hA K1 (qmem_10 E ad S A b (by decide +kernel)) (by decide) rfl gL_law_X10_write rfl rfl rfl (by decide +kernel) ⟨(Nat.le_of_ble_eq_true rfl), (Nat.le_of_ble_eq_true rfl)⟩ rfl hl.1 rfl (Nat.le_of_ble_eq_true rfl) ⟨hc.1, hc.2⟩ dL_law_891 (fun r S1 A1 b1 H locs hp hM => ?_)
  obtain ⟨post2, K2, h2⟩ := h1 r S1 A1 b1 hp
  refine lv_aload_n hx hb dL_law_894 rfl (lv_at hl 1 rfl) ?_
  refine lv_aload_n hx hb dL_law_895 rfl (lv_at hl 3 rfl) ?_
  refine lv_iload_n hx hb dL_law_896 rfl (lv_at hl 0 rfl) ?_
  refine lv_iconst (v := 1) hx hb dL_law_897 (by decide) ?_
  refine lv_iadd hx hb dL_law_898 ?_
  refine lv_as (show nI i + 1 = nI (i + 1) from nI_add i 1) ?_
  refine va_sld hx hb hX hbl hbA hM.2.2 (vp_in_nI (by omega) (by omega)) dL_law_899 ?_
  refine lv_as (show xs (nI (i + 1)).toNatClampNeg = xs (i + 1) by rw [nI_clamp (by omega)]) ?_
  refine lv_aload_n hx hb dL_law_900 rfl (lv_at hl 3 rfl) ?_
  refine lv_iload_n hx hb dL_law_901 rfl (lv_at hl 0 rfl) ?_
  refine lv_iconst (v := 2) hx hb dL_law_902 (by decide) ?_
  refine lv_iadd hx hb dL_law_903 ?_
  refine lv_as (show nI i + 2 = nI (i + 2) from nI_add i 2) ?_
  refine va_sld hx hb hX hbl hbA hM.2.2 (vp_in_nI (by omega) (by omega)) dL_law_904 ?_
  refine lv_as (show xs (nI (i + 2)).toNatClampNeg = xs (i + 2) by rw [nI_clamp (by omega)]) ?_
  refine q_callVI (n := 2) (o := 188) (As := [.int (xs (i + 1)), .int (xs (i + 2))]) (rest := [.int r]) C hM hA K2 (qmem_11 E ad S1 A1 b1 (by decide +kernel)) (by decide) rfl gL_law_X11_write rfl rfl rfl (by decide +kernel) ⟨(Nat.le_of_ble_eq_true rfl), (Nat.le_of_ble_eq_true rfl)⟩ rfl hl.1 rfl (Nat.le_of_ble_eq_true rfl) ⟨hc.1, hc.2⟩ dL_law_905 (fun r2 S2 A2 b2 H locs hp2 hM => ?_)
  obtain ⟨er, hR2⟩ := h2 r2 S2 A2 b2 hp2
  exact lv_icmp_eq (tgt := 1008) hx hb dL_law_908 (by decide) (fun _ => kk S2 A2 b2 H locs hM hR2) (fun z => absurd er z)
set_option maxHeartbeats 4000000 in
set_option maxRecDepth 100000 in
theorem lc_tear {p : Program} {l : Launch} {e : Env} {s : State} {m : MethodId} {bs : Nat} {below : List Frame} {meth : Method} {c : Code} {H : Heap} {locs : List Loc} {cells slots : Nat} {Q : State → Prop} {ls : Array Slot} {E : qE} {ad : Nat → Nat} {S A : qA2} {b : qB} {L i : Nat} {xs : Nat → Int32} (C : qC E p s m #[Value.ref bs] meth c cL_law 4 wsL_law RL (some .boolean)) (hM : qM E ad S A b (nAr s.heap.size) s H locs) (hR : Rel S A b) (hX : va_X bs L xs s s.heap) (hbl : bs < s.heap.size) (hi : i + 4 ≤ L) (hL : L ≤ 2048) (hc : cells ≤ 600000 ∧ slots ≤ 7302250) (hl : lv_has ls 4 [(3, .int (nI i)), (2, .ref (ad 188)), (1, .ref (ad 0)), (0, .ref bs)])
    (kk : ∀ (S' A' : qA2) (b' : qB) (H1 : Heap) (locs1 : List Loc), qM E ad S' A' b' (nAr s.heap.size) s H1 locs1 → Rel S' A' b' → W p l e room_1 s m #[Value.ref bs] below meth c H1 locs1 cells slots Q (F0 m 1008 ls [])) : W p l e room_1 s m #[Value.ref bs] below meth c H locs cells slots Q (F0 m 913 ls []) := by
  have hx := C.1
  have hb := C.2.1
  have hbA : ¬ nAr s.heap.size bs := Nat.not_le.mpr hbl
  have hA : ∀ q, s.heap.size ≤ q → nAr s.heap.size q := fun _ h => h
  refine lv_aload_n hx hb dL_law_913 rfl (lv_at hl 2 rfl) ?_
  obtain ⟨post, K1, h1⟩ := st_tear E ad l hR 
  refine q_callVI (n := 0) (o := 0) (As := []) (rest := []) C hM hA K1 (qmem_10 E ad S A b (by decide +kernel)) (by decide) rfl gL_law_X10_tear rfl rfl rfl (by decide +kernel) ⟨(Nat.le_of_ble_eq_true rfl), (Nat.le_of_ble_eq_true rfl)⟩ rfl hl.1 rfl (Nat.le_of_ble_eq_true rfl) ⟨hc.1, hc.2⟩ dL_law_914 (fun r S1 A1 b1 H locs hp hM => ?_)
  obtain ⟨post2, K2, h2⟩ := h1 r S1 A1 b1 hp
  refine lv_aload_n hx hb dL_law_917 rfl (lv_at hl 1 rfl) ?_
  refine q_callVI (n := 0) (o := 188) (As := []) (rest := [.int r]) C hM hA K2 (qmem_11 E ad S1 A1 b1 (by decide +kernel)) (by decide) rfl gL_law_X11_tear rfl rfl rfl (by decide +kernel) ⟨(Nat.le_of_ble_eq_true rfl), (Nat.le_of_ble_eq_true rfl)⟩ rfl hl.1 rfl (Nat.le_of_ble_eq_true rfl) ⟨hc.1, hc.2⟩ dL_law_918 (fun r2 S2 A2 b2 H locs hp2 hM => ?_)
  obtain ⟨er, hR2⟩ := h2 r2 S2 A2 b2 hp2
  exact lv_icmp_eq (tgt := 1008) hx hb dL_law_921 (by decide) (fun _ => kk S2 A2 b2 H locs hM hR2) (fun z => absurd er z)
set_option maxHeartbeats 4000000 in
set_option maxRecDepth 100000 in
theorem lc_judge {p : Program} {l : Launch} {e : Env} {s : State} {m : MethodId} {bs : Nat} {below : List Frame} {meth : Method} {c : Code} {H : Heap} {locs : List Loc} {cells slots : Nat} {Q : State → Prop} {ls : Array Slot} {E : qE} {ad : Nat → Nat} {S A : qA2} {b : qB} {L i : Nat} {xs : Nat → Int32} (C : qC E p s m #[Value.ref bs] meth c cL_law 4 wsL_law RL (some .boolean)) (hM : qM E ad S A b (nAr s.heap.size) s H locs) (hR : Rel S A b) (hX : va_X bs L xs s s.heap) (hbl : bs < s.heap.size) (hi : i + 4 ≤ L) (hL : L ≤ 2048) (hc : cells ≤ 600000 ∧ slots ≤ 7302250) (hl : lv_has ls 4 [(3, .int (nI i)), (2, .ref (ad 188)), (1, .ref (ad 0)), (0, .ref bs)])
    (kk : ∀ (S' A' : qA2) (b' : qB) (H1 : Heap) (locs1 : List Loc), qM E ad S' A' b' (nAr s.heap.size) s H1 locs1 → Rel S' A' b' → W p l e room_1 s m #[Value.ref bs] below meth c H1 locs1 cells slots Q (F0 m 1008 ls [])) : W p l e room_1 s m #[Value.ref bs] below meth c H locs cells slots Q (F0 m 926 ls []) := by
  have hx := C.1
  have hb := C.2.1
  have hbA : ¬ nAr s.heap.size bs := Nat.not_le.mpr hbl
  have hA : ∀ q, s.heap.size ≤ q → nAr s.heap.size q := fun _ h => h
  refine lv_aload_n hx hb dL_law_926 rfl (lv_at hl 2 rfl) ?_
  obtain ⟨post, K1, h1⟩ := st_judge E ad l hR 
  refine q_callVI (n := 0) (o := 0) (As := []) (rest := []) C hM hA K1 (qmem_10 E ad S A b (by decide +kernel)) (by decide) rfl gL_law_X10_judge rfl rfl rfl (by decide +kernel) ⟨(Nat.le_of_ble_eq_true rfl), (Nat.le_of_ble_eq_true rfl)⟩ rfl hl.1 rfl (Nat.le_of_ble_eq_true rfl) ⟨hc.1, hc.2⟩ dL_law_927 (fun r S1 A1 b1 H locs hp hM => ?_)
  obtain ⟨post2, K2, h2⟩ := h1 r S1 A1 b1 hp
  refine lv_aload_n hx hb dL_law_930 rfl (lv_at hl 1 rfl) ?_
  refine q_callVI (n := 0) (o := 188) (As := []) (rest := [.int r]) C hM hA K2 (qmem_11 E ad S1 A1 b1 (by decide +kernel)) (by decide) rfl gL_law_X11_judge rfl rfl rfl (by decide +kernel) ⟨(Nat.le_of_ble_eq_true rfl), (Nat.le_of_ble_eq_true rfl)⟩ rfl hl.1 rfl (Nat.le_of_ble_eq_true rfl) ⟨hc.1, hc.2⟩ dL_law_931 (fun r2 S2 A2 b2 H locs hp2 hM => ?_)
  obtain ⟨er, hR2⟩ := h2 r2 S2 A2 b2 hp2
  exact lv_icmp_eq (tgt := 1008) hx hb dL_law_934 (by decide) (fun _ => kk S2 A2 b2 H locs hM hR2) (fun z => absurd er z)
set_option maxHeartbeats 4000000 in
set_option maxRecDepth 100000 in
theorem lc_seed {p : Program} {l : Launch} {e : Env} {s : State} {m : MethodId} {bs : Nat} {below : List Frame} {meth : Method} {c : Code} {H : Heap} {locs : List Loc} {cells slots : Nat} {Q : State → Prop} {ls : Array Slot} {E : qE} {ad : Nat → Nat} {S A : qA2} {b : qB} {L i : Nat} {xs : Nat → Int32} (C : qC E p s m #[Value.ref bs] meth c cL_law 4 wsL_law RL (some .boolean)) (hM : qM E ad S A b (nAr s.heap.size) s H locs) (hR : Rel S A b) (hX : va_X bs L xs s s.heap) (hbl : bs < s.heap.size) (hi : i + 4 ≤ L) (hL : L ≤ 2048) (hc : cells ≤ 600000 ∧ slots ≤ 7302250) (hl : lv_has ls 4 [(3, .int (nI i)), (2, .ref (ad 188)), (1, .ref (ad 0)), (0, .ref bs)])
    (kk : ∀ (S' A' : qA2) (b' : qB) (H1 : Heap) (locs1 : List Loc), qM E ad S' A' b' (nAr s.heap.size) s H1 locs1 → Rel S' A' b' → W p l e room_1 s m #[Value.ref bs] below meth c H1 locs1 cells slots Q (F0 m 1008 ls [])) : W p l e room_1 s m #[Value.ref bs] below meth c H locs cells slots Q (F0 m 939 ls []) := by
  have hx := C.1
  have hb := C.2.1
  have hbA : ¬ nAr s.heap.size bs := Nat.not_le.mpr hbl
  have hA : ∀ q, s.heap.size ≤ q → nAr s.heap.size q := fun _ h => h
  refine lv_aload_n hx hb dL_law_939 rfl (lv_at hl 2 rfl) ?_
  refine lv_aload_n hx hb dL_law_940 rfl (lv_at hl 3 rfl) ?_
  refine lv_iload_n hx hb dL_law_941 rfl (lv_at hl 0 rfl) ?_
  refine lv_iconst (v := 1) hx hb dL_law_942 (by decide) ?_
  refine lv_iadd hx hb dL_law_943 ?_
  refine lv_as (show nI i + 1 = nI (i + 1) from nI_add i 1) ?_
  refine va_sld hx hb hX hbl hbA hM.2.2 (vp_in_nI (by omega) (by omega)) dL_law_944 ?_
  refine lv_as (show xs (nI (i + 1)).toNatClampNeg = xs (i + 1) by rw [nI_clamp (by omega)]) ?_
  obtain ⟨post, K1, h1⟩ := st_seed E ad l hR (xs (i + 1))
  refine q_callVI (n := 1) (o := 0) (As := [.int (xs (i + 1))]) (rest := []) C hM hA K1 (qmem_10 E ad S A b (by decide +kernel)) (by decide) rfl gL_law_X10_seed rfl rfl rfl (by decide +kernel) ⟨(Nat.le_of_ble_eq_true rfl), (Nat.le_of_ble_eq_true rfl)⟩ rfl hl.1 rfl (Nat.le_of_ble_eq_true rfl) ⟨hc.1, hc.2⟩ dL_law_945 (fun r S1 A1 b1 H locs hp hM => ?_)
  obtain ⟨post2, K2, h2⟩ := h1 r S1 A1 b1 hp
  refine lv_aload_n hx hb dL_law_948 rfl (lv_at hl 1 rfl) ?_
  refine lv_aload_n hx hb dL_law_949 rfl (lv_at hl 3 rfl) ?_
  refine lv_iload_n hx hb dL_law_950 rfl (lv_at hl 0 rfl) ?_
  refine lv_iconst (v := 1) hx hb dL_law_951 (by decide) ?_
  refine lv_iadd hx hb dL_law_952 ?_
  refine lv_as (show nI i + 1 = nI (i + 1) from nI_add i 1) ?_
  refine va_sld hx hb hX hbl hbA hM.2.2 (vp_in_nI (by omega) (by omega)) dL_law_953 ?_
  refine lv_as (show xs (nI (i + 1)).toNatClampNeg = xs (i + 1) by rw [nI_clamp (by omega)]) ?_
  refine q_callVI (n := 1) (o := 188) (As := [.int (xs (i + 1))]) (rest := [.int r]) C hM hA K2 (qmem_11 E ad S1 A1 b1 (by decide +kernel)) (by decide) rfl gL_law_X11_seed rfl rfl rfl (by decide +kernel) ⟨(Nat.le_of_ble_eq_true rfl), (Nat.le_of_ble_eq_true rfl)⟩ rfl hl.1 rfl (Nat.le_of_ble_eq_true rfl) ⟨hc.1, hc.2⟩ dL_law_954 (fun r2 S2 A2 b2 H locs hp2 hM => ?_)
  obtain ⟨er, hR2⟩ := h2 r2 S2 A2 b2 hp2
  exact lv_icmp_eq (tgt := 1008) hx hb dL_law_957 (by decide) (fun _ => kk S2 A2 b2 H locs hM hR2) (fun z => absurd er z)
set_option maxHeartbeats 4000000 in
set_option maxRecDepth 100000 in
theorem lc_keep {p : Program} {l : Launch} {e : Env} {s : State} {m : MethodId} {bs : Nat} {below : List Frame} {meth : Method} {c : Code} {H : Heap} {locs : List Loc} {cells slots : Nat} {Q : State → Prop} {ls : Array Slot} {E : qE} {ad : Nat → Nat} {S A : qA2} {b : qB} {L i : Nat} {xs : Nat → Int32} (C : qC E p s m #[Value.ref bs] meth c cL_law 4 wsL_law RL (some .boolean)) (hM : qM E ad S A b (nAr s.heap.size) s H locs) (hR : Rel S A b) (hX : va_X bs L xs s s.heap) (hbl : bs < s.heap.size) (hi : i + 4 ≤ L) (hL : L ≤ 2048) (hc : cells ≤ 600000 ∧ slots ≤ 7302250) (hl : lv_has ls 4 [(3, .int (nI i)), (2, .ref (ad 188)), (1, .ref (ad 0)), (0, .ref bs)])
    (kk : ∀ (S' A' : qA2) (b' : qB) (H1 : Heap) (locs1 : List Loc), qM E ad S' A' b' (nAr s.heap.size) s H1 locs1 → Rel S' A' b' → W p l e room_1 s m #[Value.ref bs] below meth c H1 locs1 cells slots Q (F0 m 1008 ls [])) : W p l e room_1 s m #[Value.ref bs] below meth c H locs cells slots Q (F0 m 962 ls []) := by
  have hx := C.1
  have hb := C.2.1
  have hbA : ¬ nAr s.heap.size bs := Nat.not_le.mpr hbl
  have hA : ∀ q, s.heap.size ≤ q → nAr s.heap.size q := fun _ h => h
  refine lv_aload_n hx hb dL_law_962 rfl (lv_at hl 2 rfl) ?_
  refine lv_aload_n hx hb dL_law_963 rfl (lv_at hl 3 rfl) ?_
  refine lv_iload_n hx hb dL_law_964 rfl (lv_at hl 0 rfl) ?_
  refine lv_iconst (v := 1) hx hb dL_law_965 (by decide) ?_
  refine lv_iadd hx hb dL_law_966 ?_
  refine lv_as (show nI i + 1 = nI (i + 1) from nI_add i 1) ?_
  refine va_sld hx hb hX hbl hbA hM.2.2 (vp_in_nI (by omega) (by omega)) dL_law_967 ?_
  refine lv_as (show xs (nI (i + 1)).toNatClampNeg = xs (i + 1) by rw [nI_clamp (by omega)]) ?_
  obtain ⟨post, K1, h1⟩ := st_keep E ad l hR (xs (i + 1))
  refine q_callVI (n := 1) (o := 0) (As := [.int (xs (i + 1))]) (rest := []) C hM hA K1 (qmem_10 E ad S A b (by decide +kernel)) (by decide) rfl gL_law_X10_keep rfl rfl rfl (by decide +kernel) ⟨(Nat.le_of_ble_eq_true rfl), (Nat.le_of_ble_eq_true rfl)⟩ rfl hl.1 rfl (Nat.le_of_ble_eq_true rfl) ⟨hc.1, hc.2⟩ dL_law_968 (fun r S1 A1 b1 H locs hp hM => ?_)
  obtain ⟨post2, K2, h2⟩ := h1 r S1 A1 b1 hp
  refine lv_aload_n hx hb dL_law_971 rfl (lv_at hl 1 rfl) ?_
  refine lv_aload_n hx hb dL_law_972 rfl (lv_at hl 3 rfl) ?_
  refine lv_iload_n hx hb dL_law_973 rfl (lv_at hl 0 rfl) ?_
  refine lv_iconst (v := 1) hx hb dL_law_974 (by decide) ?_
  refine lv_iadd hx hb dL_law_975 ?_
  refine lv_as (show nI i + 1 = nI (i + 1) from nI_add i 1) ?_
  refine va_sld hx hb hX hbl hbA hM.2.2 (vp_in_nI (by omega) (by omega)) dL_law_976 ?_
  refine lv_as (show xs (nI (i + 1)).toNatClampNeg = xs (i + 1) by rw [nI_clamp (by omega)]) ?_
  refine q_callVI (n := 1) (o := 188) (As := [.int (xs (i + 1))]) (rest := [.int r]) C hM hA K2 (qmem_11 E ad S1 A1 b1 (by decide +kernel)) (by decide) rfl gL_law_X11_keep rfl rfl rfl (by decide +kernel) ⟨(Nat.le_of_ble_eq_true rfl), (Nat.le_of_ble_eq_true rfl)⟩ rfl hl.1 rfl (Nat.le_of_ble_eq_true rfl) ⟨hc.1, hc.2⟩ dL_law_977 (fun r2 S2 A2 b2 H locs hp2 hM => ?_)
  obtain ⟨er, hR2⟩ := h2 r2 S2 A2 b2 hp2
  exact lv_icmp_eq (tgt := 1008) hx hb dL_law_980 (by decide) (fun _ => kk S2 A2 b2 H locs hM hR2) (fun z => absurd er z)
set_option maxHeartbeats 4000000 in
set_option maxRecDepth 100000 in
theorem lc_goBack {p : Program} {l : Launch} {e : Env} {s : State} {m : MethodId} {bs : Nat} {below : List Frame} {meth : Method} {c : Code} {H : Heap} {locs : List Loc} {cells slots : Nat} {Q : State → Prop} {ls : Array Slot} {E : qE} {ad : Nat → Nat} {S A : qA2} {b : qB} {L i : Nat} {xs : Nat → Int32} (C : qC E p s m #[Value.ref bs] meth c cL_law 4 wsL_law RL (some .boolean)) (hM : qM E ad S A b (nAr s.heap.size) s H locs) (hR : Rel S A b) (hX : va_X bs L xs s s.heap) (hbl : bs < s.heap.size) (hi : i + 4 ≤ L) (hL : L ≤ 2048) (hc : cells ≤ 600000 ∧ slots ≤ 7302250) (hl : lv_has ls 4 [(3, .int (nI i)), (2, .ref (ad 188)), (1, .ref (ad 0)), (0, .ref bs)])
    (kk : ∀ (S' A' : qA2) (b' : qB) (H1 : Heap) (locs1 : List Loc), qM E ad S' A' b' (nAr s.heap.size) s H1 locs1 → Rel S' A' b' → W p l e room_1 s m #[Value.ref bs] below meth c H1 locs1 cells slots Q (F0 m 1008 ls [])) : W p l e room_1 s m #[Value.ref bs] below meth c H locs cells slots Q (F0 m 985 ls []) := by
  have hx := C.1
  have hb := C.2.1
  have hbA : ¬ nAr s.heap.size bs := Nat.not_le.mpr hbl
  have hA : ∀ q, s.heap.size ≤ q → nAr s.heap.size q := fun _ h => h
  refine lv_aload_n hx hb dL_law_985 rfl (lv_at hl 2 rfl) ?_
  refine lv_aload_n hx hb dL_law_986 rfl (lv_at hl 3 rfl) ?_
  refine lv_iload_n hx hb dL_law_987 rfl (lv_at hl 0 rfl) ?_
  refine lv_iconst (v := 1) hx hb dL_law_988 (by decide) ?_
  refine lv_iadd hx hb dL_law_989 ?_
  refine lv_as (show nI i + 1 = nI (i + 1) from nI_add i 1) ?_
  refine va_sld hx hb hX hbl hbA hM.2.2 (vp_in_nI (by omega) (by omega)) dL_law_990 ?_
  refine lv_as (show xs (nI (i + 1)).toNatClampNeg = xs (i + 1) by rw [nI_clamp (by omega)]) ?_
  obtain ⟨post, K1, h1⟩ := st_goBack E ad l hR (xs (i + 1))
  refine q_callVI (n := 1) (o := 0) (As := [.int (xs (i + 1))]) (rest := []) C hM hA K1 (qmem_10 E ad S A b (by decide +kernel)) (by decide) rfl gL_law_X10_goBack rfl rfl rfl (by decide +kernel) ⟨(Nat.le_of_ble_eq_true rfl), (Nat.le_of_ble_eq_true rfl)⟩ rfl hl.1 rfl (Nat.le_of_ble_eq_true rfl) ⟨hc.1, hc.2⟩ dL_law_991 (fun r S1 A1 b1 H locs hp hM => ?_)
  obtain ⟨post2, K2, h2⟩ := h1 r S1 A1 b1 hp
  refine lv_aload_n hx hb dL_law_994 rfl (lv_at hl 1 rfl) ?_
  refine lv_aload_n hx hb dL_law_995 rfl (lv_at hl 3 rfl) ?_
  refine lv_iload_n hx hb dL_law_996 rfl (lv_at hl 0 rfl) ?_
  refine lv_iconst (v := 1) hx hb dL_law_997 (by decide) ?_
  refine lv_iadd hx hb dL_law_998 ?_
  refine lv_as (show nI i + 1 = nI (i + 1) from nI_add i 1) ?_
  refine va_sld hx hb hX hbl hbA hM.2.2 (vp_in_nI (by omega) (by omega)) dL_law_999 ?_
  refine lv_as (show xs (nI (i + 1)).toNatClampNeg = xs (i + 1) by rw [nI_clamp (by omega)]) ?_
  refine q_callVI (n := 1) (o := 188) (As := [.int (xs (i + 1))]) (rest := [.int r]) C hM hA K2 (qmem_11 E ad S1 A1 b1 (by decide +kernel)) (by decide) rfl gL_law_X11_goBack rfl rfl rfl (by decide +kernel) ⟨(Nat.le_of_ble_eq_true rfl), (Nat.le_of_ble_eq_true rfl)⟩ rfl hl.1 rfl (Nat.le_of_ble_eq_true rfl) ⟨hc.1, hc.2⟩ dL_law_1000 (fun r2 S2 A2 b2 H locs hp2 hM => ?_)
  obtain ⟨er, hR2⟩ := h2 r2 S2 A2 b2 hp2
  exact lv_icmp_eq (tgt := 1008) hx hb dL_law_1003 (by decide) (fun _ => kk S2 A2 b2 H locs hM hR2) (fun z => absurd er z)
