/-! the law: its loop -/
theorem and31 (v : Int32) : ∃ k, k < 32 ∧ v &&& 31 = nI k := by
  obtain ⟨m, _, rfl⟩ := i32_nat v
  rw [show (31 : Int32) = nI 31 from rfl, nI_and]
  exact ⟨m &&& 31, Nat.lt_of_le_of_lt Nat.and_le_right (by omega), rfl⟩
set_option maxHeartbeats 4000000 in
set_option maxRecDepth 100000 in
theorem law_go {p : Program} {l : Launch} {e : Env} {s : State} {m : MethodId} {bs : Nat} {below : List Frame} {meth : Method} {c : Code} {H : Heap} {locs : List Loc} {cells slots : Nat} {Q : State → Prop} {ls : Array Slot} {E : qE} {ad : Nat → Nat} {S A : qA2} {b : qB} {L i : Nat} {xs : Nat → Int32} (C : qC E p s m #[Value.ref bs] meth c cL_law 4 wsL_law RL (some .boolean)) (hM : qM E ad S A b (nAr s.heap.size) s H locs) (hR : Rel S A b) (hX : va_X bs L xs s s.heap) (hbl : bs < s.heap.size) (hi : i + 4 ≤ L) (hL : L ≤ 2048) (hc : cells ≤ 600000 ∧ slots ≤ 7302250) (hl : lv_has ls 4 [(3, .int (nI i)), (2, .ref (ad 188)), (1, .ref (ad 0)), (0, .ref bs)])
    (kk : ∀ (S' A' : qA2) (b' : qB) (H1 : Heap) (locs1 : List Loc), qM E ad S' A' b' (nAr s.heap.size) s H1 locs1 → Rel S' A' b' → W p l e room_1 s m #[Value.ref bs] below meth c H1 locs1 cells slots Q (F0 m 1008 ls [])) {k : Nat} (hk : k < 32) : W p l e room_1 s m #[Value.ref bs] below meth c H locs cells slots Q (F0 m 32 ls [.int (nI k)]) := by
  have hx := C.1
  have hb := C.2.1
  rcases (show k = 0 ∨ k = 1 ∨ k = 2 ∨ k = 3 ∨ k = 4 ∨ k = 5 ∨ k = 6 ∨ k = 7 ∨ k = 8 ∨ k = 9 ∨ k = 10 ∨ k = 11 ∨ k = 12 ∨ k = 13 ∨ k = 14 ∨ k = 15 ∨ k = 16 ∨ k = 17 ∨ k = 18 ∨ k = 19 ∨ k = 20 ∨ k = 21 ∨ k = 22 ∨ k = 23 ∨ k = 24 ∨ k = 25 ∨ k = 26 ∨ k = 27 ∨ k = 28 ∨ k = 29 ∨ k = 30 ∨ k = 31 by omega) with rfl | rfl | rfl | rfl | rfl | rfl | rfl | rfl | rfl | rfl | rfl | rfl | rfl | rfl | rfl | rfl | rfl | rfl | rfl | rfl | rfl | rfl | rfl | rfl | rfl | rfl | rfl | rfl | rfl | rfl | rfl | rfl
  · exact lv_tableIn (off := 144) (tgt := 176) hx hb dL_law_32 (by decide) (by decide) (by rfl) (by decide) (lc_feed C hM hR hX hbl hi hL hc hl kk)
  · exact lv_tableIn (off := 167) (tgt := 199) hx hb dL_law_32 (by decide) (by decide) (by rfl) (by decide) (lc_plateau C hM hR hX hbl hi hL hc hl kk)
  · exact lv_tableIn (off := 180) (tgt := 212) hx hb dL_law_32 (by decide) (by decide) (by rfl) (by decide) (lc_fault C hM hR hX hbl hi hL hc hl kk)
  · exact lv_tableIn (off := 193) (tgt := 225) hx hb dL_law_32 (by decide) (by decide) (by rfl) (by decide) (lc_told C hM hR hX hbl hi hL hc hl kk)
  · exact lv_tableIn (off := 216) (tgt := 248) hx hb dL_law_32 (by decide) (by decide) (by rfl) (by decide) (lc_snow C hM hR hX hbl hi hL hc hl kk)
  · exact lv_tableIn (off := 239) (tgt := 271) hx hb dL_law_32 (by decide) (by decide) (by rfl) (by decide) (lc_post C hM hR hX hbl hi hL hc hl kk)
  · exact lv_tableIn (off := 272) (tgt := 304) hx hb dL_law_32 (by decide) (by decide) (by rfl) (by decide) (lc_crow C hM hR hX hbl hi hL hc hl kk)
  · exact lv_tableIn (off := 305) (tgt := 337) hx hb dL_law_32 (by decide) (by decide) (by rfl) (by decide) (lc_hour C hM hR hX hbl hi hL hc hl kk)
  · exact lv_tableIn (off := 328) (tgt := 360) hx hb dL_law_32 (by decide) (by decide) (by rfl) (by decide) (lc_let C hM hR hX hbl hi hL hc hl kk)
  · exact lv_tableIn (off := 361) (tgt := 393) hx hb dL_law_32 (by decide) (by decide) (by rfl) (by decide) (lc_giveUp C hM hR hX hbl hi hL hc hl kk)
  · exact lv_tableIn (off := 384) (tgt := 416) hx hb dL_law_32 (by decide) (by decide) (by rfl) (by decide) (lc_move C hM hR hX hbl hi hL hc hl kk)
  · exact lv_tableIn (off := 433) (tgt := 465) hx hb dL_law_32 (by decide) (by decide) (by rfl) (by decide) (lc_thaw C hM hR hX hbl hi hL hc hl kk)
  · exact lv_tableIn (off := 456) (tgt := 488) hx hb dL_law_32 (by decide) (by decide) (by rfl) (by decide) (lc_shout C hM hR hX hbl hi hL hc hl kk)
  · exact lv_tableIn (off := 479) (tgt := 511) hx hb dL_law_32 (by decide) (by decide) (by rfl) (by decide) (lc_drift C hM hR hX hbl hi hL hc hl kk)
  · exact lv_tableIn (off := 502) (tgt := 534) hx hb dL_law_32 (by decide) (by decide) (by rfl) (by decide) (lc_undo C hM hR hX hbl hi hL hc hl kk)
  · exact lv_tableIn (off := 515) (tgt := 547) hx hb dL_law_32 (by decide) (by decide) (by rfl) (by decide) (lc_lies C hM hR hX hbl hi hL hc hl kk)
  · exact lv_tableIn (off := 548) (tgt := 580) hx hb dL_law_32 (by decide) (by decide) (by rfl) (by decide) (lc_open C hM hR hX hbl hi hL hc hl kk)
  · exact lv_tableIn (off := 571) (tgt := 603) hx hb dL_law_32 (by decide) (by decide) (by rfl) (by decide) (lc_worth C hM hR hX hbl hi hL hc hl kk)
  · exact lv_tableIn (off := 604) (tgt := 636) hx hb dL_law_32 (by decide) (by decide) (by rfl) (by decide) (lc_lets C hM hR hX hbl hi hL hc hl kk)
  · exact lv_tableIn (off := 637) (tgt := 669) hx hb dL_law_32 (by decide) (by decide) (by rfl) (by decide) (lc_fewest C hM hR hX hbl hi hL hc hl kk)
  · exact lv_tableIn (off := 660) (tgt := 692) hx hb dL_law_32 (by decide) (by decide) (by rfl) (by decide) (lc_yard C hM hR hX hbl hi hL hc hl kk)
  · exact lv_tableIn (off := 703) (tgt := 735) hx hb dL_law_32 (by decide) (by decide) (by rfl) (by decide) (lc_out C hM hR hX hbl hi hL hc hl kk)
  · exact lv_tableIn (off := 736) (tgt := 768) hx hb dL_law_32 (by decide) (by decide) (by rfl) (by decide) (lc_still C hM hR hX hbl hi hL hc hl kk)
  · exact lv_tableIn (off := 769) (tgt := 801) hx hb dL_law_32 (by decide) (by decide) (by rfl) (by decide) (lc_see C hM hR hX hbl hi hL hc hl kk)
  · exact lv_tableIn (off := 802) (tgt := 834) hx hb dL_law_32 (by decide) (by decide) (by rfl) (by decide) (lc_sublets C hM hR hX hbl hi hL hc hl kk)
  · exact lv_tableIn (off := 825) (tgt := 857) hx hb dL_law_32 (by decide) (by decide) (by rfl) (by decide) (lc_fit C hM hR hX hbl hi hL hc hl kk)
  · exact lv_tableIn (off := 848) (tgt := 880) hx hb dL_law_32 (by decide) (by decide) (by rfl) (by decide) (lc_write C hM hR hX hbl hi hL hc hl kk)
  · exact lv_tableIn (off := 881) (tgt := 913) hx hb dL_law_32 (by decide) (by decide) (by rfl) (by decide) (lc_tear C hM hR hX hbl hi hL hc hl kk)
  · exact lv_tableIn (off := 894) (tgt := 926) hx hb dL_law_32 (by decide) (by decide) (by rfl) (by decide) (lc_judge C hM hR hX hbl hi hL hc hl kk)
  · exact lv_tableIn (off := 907) (tgt := 939) hx hb dL_law_32 (by decide) (by decide) (by rfl) (by decide) (lc_seed C hM hR hX hbl hi hL hc hl kk)
  · exact lv_tableIn (off := 930) (tgt := 962) hx hb dL_law_32 (by decide) (by decide) (by rfl) (by decide) (lc_keep C hM hR hX hbl hi hL hc hl kk)
  · exact lv_tableIn (off := 953) (tgt := 985) hx hb dL_law_32 (by decide) (by decide) (by rfl) (by decide) (lc_goBack C hM hR hX hbl hi hL hc hl kk)
theorem law_lt {i L : Nat} (hi : i ≤ 2048) (hL : L ≤ 2048) (h : ¬ Int32.ofNat L - 4 < nI i) : i + 4 ≤ L := by
  by_cases h4 : 4 ≤ L
  · have e : Int32.ofNat L - 4 = nI (L - 4) := pk_sub h4
    rw [e] at h
    rcases Nat.lt_or_ge (L - 4) i with g | g
    · exact absurd (nI_lt g (by omega)) h
    · omega
  · exfalso
    have hn : ∀ L, L < 4 → Int32.ofNat L - 4 < (0 : Int32) := by decide +kernel
    exact h (Int32.lt_of_lt_of_le (hn L (by omega)) (nI_le (a := 0) (Nat.zero_le i) (by omega)))
set_option maxHeartbeats 4000000 in
set_option maxRecDepth 100000 in
theorem law_loop {p : Program} {l : Launch} {e : Env} {s : State} {m : MethodId} {bs : Nat} {below : List Frame} {meth : Method} {c : Code} {cells slots : Nat} {E : qE} {ad : Nat → Nat} {L : Nat} {xs : Nat → Int32} (C : qC E p s m #[Value.ref bs] meth c cL_law 4 wsL_law RL (some .boolean)) (hX : va_X bs L xs s s.heap) (hbl : bs < s.heap.size) (hL : L ≤ 2048) (hc : cells ≤ 600000 ∧ slots ≤ 7302250) : ∀ (fu i : Nat), i ≤ 2048 → 2048 - i < fu → ∀ (H : Heap) (locs : List Loc) (ls : Array Slot) (S A : qA2) (b : qB), qM E ad S A b (nAr s.heap.size) s H locs → Rel S A b → lv_has ls 4 [(3, .int (nI i)), (2, .ref (ad 188)), (1, .ref (ad 0)), (0, .ref bs)] → W p l e room_1 s m #[Value.ref bs] below meth c H locs cells slots (lw_Z below #[Value.ref bs] s) (F0 m 18 ls []) := by
  have hx := C.1
  have hb := C.2.1
  have hbA : ¬ nAr s.heap.size bs := Nat.not_le.mpr hbl
  intro fu
  induction fu with
  | zero => intro i _ hn; exact absurd hn (Nat.not_lt_zero _)
  | succ fu ih =>
    intro i hi2 hfu H locs ls S A b hM hR hl
    refine lv_iload_n hx hb dL_law_18 rfl (lv_at hl 0 rfl) ?_
    refine lv_aload_n hx hb dL_law_19 rfl (lv_at hl 3 rfl) ?_
    refine va_slen hx hb hX hbl hbA hM.2.2 dL_law_20 ?_
    refine lv_iconst (v := 4) hx hb dL_law_21 (by decide) ?_
    refine lv_isub hx hb dL_law_22 ?_
    refine lv_icmp_gt (tgt := 1014) hx hb dL_law_23 (by decide) (fun _ => ?_) (fun hn => ?_)
    · refine lv_iconst (v := 1) hx hb dL_law_1014 (by decide) ?_
      refine va_forget (fun q hq => hM.2.2.2.2 q hq) ?_
      refine W.widen (k := 600000) (n := 7302250) hc.1 hc.2 ?_
      exact lw_ret C.1 C.2.1 C.2.2.2.2.2.2.2 C.2.2.2.2.2.2.1 dL_law_1015
    · have hi : i + 4 ≤ L := law_lt hi2 hL hn
      refine lv_aload_n hx hb dL_law_26 rfl (lv_at hl 3 rfl) ?_
      refine lv_iload_n hx hb dL_law_27 rfl (lv_at hl 0 rfl) ?_
      refine va_sld hx hb hX hbl hbA hM.2.2 (vp_in_nI (by omega) (by omega)) dL_law_28 ?_
      refine lv_as (show xs (nI i).toNatClampNeg = xs i by rw [nI_clamp (by omega)]) ?_
      refine lv_bipush (v := 31) hx hb dL_law_29 (by decide) ?_
      refine lv_iand hx hb dL_law_31 ?_
      obtain ⟨k, hk, ek⟩ := and31 (xs i)
      refine lv_as ek ?_
      refine law_go C hM hR hX hbl hi hL hc hl (fun S2 A2 b2 H1 locs1 hM2 hR2 => ?_) hk
      refine lv_iinc (v := nI (i + 4)) (lv' := [(3, .int (nI (i + 4))), (2, .ref (ad 188)), (1, .ref (ad 0)), (0, .ref bs)]) hx hb dL_law_1008 hl (k := 0) rfl (by rw [← nI_add]; rfl) (by decide) rfl (fun ls hl => ?_)
      refine lv_goto (tgt := 18) hx hb dL_law_1011 (by decide) ?_
      exact ih (i + 4) (by omega) (by omega) H1 locs1 ls S2 A2 b2 hM2 hR2 hl
theorem gW_D (E : qE) (sz : Nat) (S A : qA2) (b : qB) : va_D (nAr sz) (gW E (fun j => sz + j) S A b) := by
  refine ⟨fun i j x y hx hy hxy => ?_, fun k q hk => ?_⟩
  · have hi := gW_lt E _ S A b hx
    have hj := gW_lt E _ S A b hy
    rw [gW_at E _ S A b hi] at hx
    rw [gW_at E _ S A b hj] at hy
    cases hx
    cases hy
    have hxy : sz + i = sz + j := hxy
    omega
  · have hl := gW_lt E _ S A b hk
    rw [gW_at E _ S A b hl] at hk
    cases hk
    exact Nat.le_add_right _ _
set_option maxHeartbeats 4000000 in
set_option maxRecDepth 100000 in
/-- from the entry, for every script of at most 2048 ints, the law comes to its end with true -/
theorem whole_start {p : Program} {e : Env} {s : State} {m : MethodId} {below : List Frame} {meth : Method} {c : Code} (l : Launch) {b L : Nat} {xs : Nat → Int32} (hL : L ≤ 2048) (C0 : lw_At p s m meth c b L xs) : W p l e room_1 s m #[Value.ref b] below meth c s.heap [] 0 0 (lw_Z below #[Value.ref b] s) (entryFrame m ([Value.ref b] : List Value).toArray 4) := by
  obtain ⟨hx, hb, hr, hml, hown, hts, hX, hbl, hlocks, hgv⟩ := id C0
  obtain ⟨E, hE⟩ := law_E hts
  have hw : ∀ w ∈ wsL_law, w.before #[Value.ref b] s = true := fun w h => hts w (wsL_law_in w h)
  have hown : s.vm.findClass RL = some m.cls := hown
  have hl := lv_entry ([.ref b]) (n := 4) (Nat.le_of_ble_eq_true rfl)
  rw [lg_entry_eq]
  generalize (lg_sl ([.ref b]) ++ List.replicate (4 - (lg_sl ([.ref b])).length) Slot.unset).toArray = ls at hl ⊢
  have hl : lv_has ls 4 [(0, .ref b)] := hl
  have hA : ∀ q, s.heap.size ≤ q → nAr s.heap.size q := fun _ h => h
  have hP : va_P E.1 vwCl (nN s.heap.size (fun _ => .inr (0, [])) 0) s.heap := fun k q hk => absurd (nN_lt hk) (Nat.not_lt_zero k)
  refine va_new (D := E.1) (cl := vwCl) (tys := qT E) (ws := nN s.heap.size (fun _ => .inr (0, [])) 0) (A := nAr s.heap.size) (H0 := s.heap) (ci := 10) (fs := [.null, .null, .null, .null, .null, .null, .null, .null, .null, .null, .null]) (C := RX10) (T := TX10) (N := 11) hx hb hts in_wsX100 tyX10 tyX10_ok hown (hts (.classLink RL 7 RX10) (by decide +kernel)) (hts (.instantiable RX10 11) (by decide +kernel)) (hts (.initialized RX10) (by decide +kernel)) hE.1 hP (nN_D _ _ _) va_S.rf hA rfl (fun j hj => by rcases (show j = 0 ∨ j = 1 ∨ j = 2 ∨ j = 3 ∨ j = 4 ∨ j = 5 ∨ j = 6 ∨ j = 7 ∨ j = 8 ∨ j = 9 ∨ j = 10 by omega) with rfl | rfl | rfl | rfl | rfl | rfl | rfl | rfl | rfl | rfl | rfl <;> rfl) (Nat.le_of_ble_eq_true rfl) (Nat.le_of_ble_eq_true rfl) dL_law_0 (fun q H hP hD hS => n_cap (fun hz => ?_))
  have hq : q = s.heap.size + 0 := n_addr hP hD (by omega)
  subst hq
  rw [nN_push] at hP
  have hH : H.size = s.heap.size + 1 := by
    have : s.heap.size + 0 < H.size := (hP 0 _ (nN_at _ _ (by omega))).lt
    omega
  refine lv_dup hx hb dL_law_3 rfl ?_
  refine va_callv (va_runI (As := []) (rest := [.ref (s.heap.size + 0)]) ⟨hx, hb, hml, hown, hw⟩ (n_X10 E s.heap.size l _ (cu_s _ _ _)) (cwI 0 hw gL_law_X10_init rfl rfl rfl (hts (.initialized RX10) (by decide +kernel)) (hts (.methodLink RL 9 yX10_init) (by decide +kernel)) (hts (.instanceMethod yX10_init) (by decide +kernel)) rfl (by decide +kernel) ⟨(Nat.le_of_ble_eq_true rfl), (Nat.le_of_ble_eq_true rfl)⟩) ⟨nPre_blind, fun U hU hW => ⟨rfl, by rw [hU]; exact hH, by rw [hU]; exact hP, hE.warm hW⟩⟩ rfl rfl hl.1 rfl (lv_room (Nat.le_of_ble_eq_true rfl)) dL_law_4 ⟨(Nat.le_of_ble_eq_true rfl), (Nat.le_of_ble_eq_true rfl)⟩) hS (fun q _ h => h) (fun q h => h) (fun u t H1 locs1 ht hvm hi hB hz1 hk1 hS => ?_)
  have hB : va_P E.1 vwCl (gW E (fun j => s.heap.size + j) u.1 u.2.1 u.2.2) H1 := by
    rw [← ht]
    exact hB
  refine lv_astore_n (lv' := [(1, .ref (s.heap.size + 0)), (0, .ref b)]) hx hb dL_law_7 rfl hl (by decide) rfl (fun ls hl => ?_)
  refine va_new (D := E.1) (cl := vwCl) (tys := qT E) (ws := gW E (fun j => s.heap.size + j) u.1 u.2.1 u.2.2) (A := nAr s.heap.size) (H0 := s.heap) (ci := 11) (fs := [.int 0, .int 0, .int 0, .int 0, .int 0, .null, .int 0, .null, .int 0, .null, .null, .null, .int 0, .null, .int 0, .int 0, .int 0, .int 0, .int 0, .null, .int 0, .int 0, .null, .null, .int 0, .null, .null, .int 0, .null, .null, .int 0, .null, .null, .null, .null, .null, .int 0, .null, .null, .null, .int 0, .null, .null, .null, .null]) (C := RX11) (T := TX11) (N := 45) hx hb hts in_wsX110 tyX11 tyX11_ok hown (hts (.classLink RL 10 RX11) (by decide +kernel)) (hts (.instantiable RX11 45) (by decide +kernel)) (hts (.initialized RX11) (by decide +kernel)) hE.1 hB (gW_D E _ _ _ _) hS hA rfl (fun j hj => by rcases (show j = 0 ∨ j = 1 ∨ j = 2 ∨ j = 3 ∨ j = 4 ∨ j = 5 ∨ j = 6 ∨ j = 7 ∨ j = 8 ∨ j = 9 ∨ j = 10 ∨ j = 11 ∨ j = 12 ∨ j = 13 ∨ j = 14 ∨ j = 15 ∨ j = 16 ∨ j = 17 ∨ j = 18 ∨ j = 19 ∨ j = 20 ∨ j = 21 ∨ j = 22 ∨ j = 23 ∨ j = 24 ∨ j = 25 ∨ j = 26 ∨ j = 27 ∨ j = 28 ∨ j = 29 ∨ j = 30 ∨ j = 31 ∨ j = 32 ∨ j = 33 ∨ j = 34 ∨ j = 35 ∨ j = 36 ∨ j = 37 ∨ j = 38 ∨ j = 39 ∨ j = 40 ∨ j = 41 ∨ j = 42 ∨ j = 43 ∨ j = 44 by omega) with rfl | rfl | rfl | rfl | rfl | rfl | rfl | rfl | rfl | rfl | rfl | rfl | rfl | rfl | rfl | rfl | rfl | rfl | rfl | rfl | rfl | rfl | rfl | rfl | rfl | rfl | rfl | rfl | rfl | rfl | rfl | rfl | rfl | rfl | rfl | rfl | rfl | rfl | rfl | rfl | rfl | rfl | rfl | rfl | rfl <;> rfl) (Nat.le_of_ble_eq_true rfl) (Nat.le_of_ble_eq_true rfl) dL_law_8 (fun q H hP hD hS => n_cap (fun hz => ?_))
  obtain ⟨hq, hH2⟩ := law_addr hP hD (by omega)
  subst hq
  have hlen : (gW E (fun j => s.heap.size + j) u.1 u.2.1 u.2.2).length = 188 := by simp [gW]
  have hG : va_P E.1 vwCl (gW E (fun j => s.heap.size + j) u.1 u.2.1 u.2.2) H := fun k x hk => hP k x (by rw [List.getElem?_append_left (List.getElem?_eq_some_iff.mp hk).1]; exact hk)
  have hN : va_P E.1 vwCl (nN (s.heap.size + 188) (fun _ => .inr (11, [.int 0, .int 0, .int 0, .int 0, .int 0, .null, .int 0, .null, .int 0, .null, .null, .null, .int 0, .null, .int 0, .int 0, .int 0, .int 0, .int 0, .null, .int 0, .int 0, .null, .null, .int 0, .null, .null, .int 0, .null, .null, .int 0, .null, .null, .null, .null, .null, .int 0, .null, .null, .null, .int 0, .null, .null, .null, .null])) 1) H := fun k x hk => by
    have hk0 : k = 0 := by have := nN_lt hk; omega
    subst hk0
    rw [nN_at _ _ (by omega)] at hk
    cases hk
    exact hP 188 (s.heap.size + 188, _) (by rw [List.getElem?_append_right (by omega), hlen]; rfl)
  refine lv_dup hx hb dL_law_11 rfl ?_
  refine va_callv (va_runI (As := []) (rest := [.ref (s.heap.size + 188)]) ⟨hx, hb, hml, hown, hw⟩ (n_X11 E (s.heap.size + 188) l (fun _ => .inr (11, [.int 0, .int 0, .int 0, .int 0, .int 0, .null, .int 0, .null, .int 0, .null, .null, .null, .int 0, .null, .int 0, .int 0, .int 0, .int 0, .int 0, .null, .int 0, .int 0, .null, .null, .int 0, .null, .null, .int 0, .null, .null, .int 0, .null, .null, .null, .null, .null, .int 0, .null, .null, .null, .int 0, .null, .null, .null, .null])) rfl) (cwI 0 hw gL_law_X11_init rfl rfl rfl (hts (.initialized RX11) (by decide +kernel)) (hts (.methodLink RL 12 yX11_init) (by decide +kernel)) (hts (.instanceMethod yX11_init) (by decide +kernel)) rfl (by decide +kernel) ⟨(Nat.le_of_ble_eq_true rfl), (Nat.le_of_ble_eq_true rfl)⟩) ⟨nPre_blind, fun U hU hW => ⟨rfl, by rw [hU]; exact hH2, by rw [hU]; exact hN, hE.warm hW⟩⟩ rfl rfl hl.1 rfl (lv_room (Nat.le_of_ble_eq_true rfl)) dL_law_12 ⟨(Nat.le_of_ble_eq_true rfl), (Nat.le_of_ble_eq_true rfl)⟩) hS (fun q _ h => Nat.le_trans (Nat.le_add_right _ _) h) (fun q h => Nat.le_trans (Nat.le_add_right _ _) h) (fun u2 t2 H2 locs2 ht2 hvm2 _ hB2 hz2 hk2 hS => ?_)
  have hG2 : va_P E.1 vwCl (gW E (fun j => s.heap.size + j) u.1 u.2.1 u.2.2) H2 := hG.kept (fun k x hk => by
    have hkl := gW_lt E _ _ _ _ hk
    rw [gW_at E _ _ _ _ hkl] at hk
    cases hk
    refine hk2 _ (by show s.heap.size + k < H.size; omega) (fun z => ?_)
    have z : s.heap.size + 188 ≤ s.heap.size + k := z
    omega)
  obtain ⟨hP3, hD3⟩ := law_mem hi hG2 (by rw [← ht2]; exact hB2)
  refine lv_astore_n (lv' := [(2, .ref (s.heap.size + 188)), (1, .ref (s.heap.size + 0)), (0, .ref b)]) hx hb dL_law_15 rfl hl (by decide) rfl (fun ls hl => ?_)
  refine lv_iconst (v := 0) hx hb dL_law_16 (by decide) ?_
  refine lv_istore_n (lv' := [(3, .int 0), (2, .ref (s.heap.size + 188)), (1, .ref (s.heap.size + 0)), (0, .ref b)]) hx hb dL_law_17 rfl hl (by decide) rfl (fun ls hl => ?_)
  have hl : lv_has ls 4 [(3, .int (nI 0)), (2, .ref ((fun j => s.heap.size + j) 188)), (1, .ref ((fun j => s.heap.size + j) 0)), (0, .ref b)] := hl
  exact law_loop (E := E) (ad := fun j => s.heap.size + j) ⟨hx, hb, hml, hown, hw, hE.1, hlocks, hr⟩ hX hbl hL ⟨(Nat.le_of_ble_eq_true rfl), (Nat.le_of_ble_eq_true rfl)⟩ 2049 0 (by omega) (by omega) H2 locs2 ls u.1 u.2.1 u.2.2 ⟨hP3, hD3, hS⟩ (init_rel hi) hl

