set_option maxHeartbeats 4000000 in
set_option maxRecDepth 100000 in
theorem c_X5_isRoad (E : qE) (ad : Nat → Nat) (l : Launch) (S A : qA2) (b : qB) (p : Nat) (hp : qpl p) (a1 : Int32) : MI E ad l yX5_isRoad wsX5_isRoad { frames := 0, cells := 0, slots := 0, locals := 0 } [.ref (ad p), .int a1] S A b (fun r S' A' b' => (S = S' ∧ A = A' ∧ b = b') ∧ r = q01 (¬ qtb (S p 3) a1 = 0)) := by
  obtain ⟨⟨kp, kp1, kp2, kp3, kp4, kp5, kp6⟩, ⟨lp1, lp2, lp3, lp4, lp5, lp6⟩, bp, bp7⟩ := qpl_all hp
  refine MI.of (cc := cX5_isRoad) (maxL := 2) (ret := some .boolean) RX5 rfl (by decide) rfl ?_
  intro p e s m below meth cd C hM
  have hx := C.1
  have hb := C.2.1
  have hts := C.2.2.2.2.1
  have hA : ∀ q, s.heap.size ≤ q → qAr ad s.heap.size q := fun _ h => Or.inr h
  have hi5 : ∀ w ∈ u_ws RX5 TX5 13, w ∈ wsX5_isRoad := by decide +kernel
  have hL0 := hts (.fieldLink RX5 34 "CrowFences$Plan" "road" "I") (by decide +kernel)
  have hl := lv_entry ([.ref (ad p), .int a1]) (n := 2) (Nat.le_of_ble_eq_true rfl)
  rw [lg_entry_eq]
  generalize (lg_sl ([.ref (ad p), .int a1]) ++ List.replicate (2 - (lg_sl ([.ref (ad p), .int a1])).length) Slot.unset).toArray = ls at hl ⊢
  have hl : lv_has ls 2 [(0, .ref (ad p)), (1, .int a1)] := hl
  refine lv_aload_n hx hb dX5_isRoad_0 rfl (lv_at hl 0 rfl) ?_
  refine q_get (o := p) (ci := 5) (k := 3) (T := TX5) (v := .int (S p 3)) C hM (qmem_5 E ad S A b kp) (by omega) rfl hi5 (by decide) hL0 rfl rfl dX5_isRoad_1 ?_
  refine lv_iload_n hx hb dX5_isRoad_4 rfl (lv_at hl 1 rfl) ?_
  refine lv_ishr hx hb dX5_isRoad_5 ?_
  refine lv_iconst (v := 1) hx hb dX5_isRoad_6 (by decide) ?_
  refine lv_iand hx hb dX5_isRoad_7 ?_
  refine lv_if_eq (tgt := 15) hx hb dX5_isRoad_8 (by decide) (fun c_8 => ?_) (fun c_8 => ?_)
  · skip
    refine lv_iconst (v := 0) hx hb dX5_isRoad_15 (by decide) ?_
    exact q_zret C hM dX5_isRoad_16 rfl (by exact ⟨⟨rfl, rfl, rfl⟩, by simp [q01, qtb, *]⟩)
  · skip
    refine lv_iconst (v := 1) hx hb dX5_isRoad_11 (by decide) ?_
    refine lv_goto (tgt := 16) hx hb dX5_isRoad_12 (by decide) ?_
    exact q_zret C hM dX5_isRoad_16 rfl (by exact ⟨⟨rfl, rfl, rfl⟩, by simp [q01, qtb, *]⟩)

set_option maxHeartbeats 4000000 in
set_option maxRecDepth 100000 in
theorem c_X9_postOf (E : qE) (ad : Nat → Nat) (l : Launch) (S A : qA2) (b : qB) (w : Nat) (hw : qw w) (a1 : Int32) : MI E ad l yX9_postOf wsX9_postOf { frames := 0, cells := 0, slots := 0, locals := 0 } [.ref (ad w), .int a1] S A b (fun r S' A' b' => (S = S' ∧ A = A' ∧ b = b') ∧ r = qfind (A (w + 3)) a1 0 6) := by
  obtain ⟨⟨kw, kw1, kw2, kw3, kw4, kw5⟩, ⟨lw1, lw2, lw3, lw4, lw5⟩, bw, bw6⟩ := qw_all hw
  refine MI.of (cc := cX9_postOf) (maxL := 3) (ret := some .int) RX9 rfl (by decide) rfl ?_
  intro p e s m below meth cd C hM
  have hx := C.1
  have hb := C.2.1
  have hts := C.2.2.2.2.1
  have hA : ∀ q, s.heap.size ≤ q → qAr ad s.heap.size q := fun _ h => Or.inr h
  have hi9 : ∀ w ∈ u_ws RX9 TX9 8, w ∈ wsX9_postOf := by decide +kernel
  have hL0 := hts (.fieldLink RX9 18 "CrowFences$Winter" "crowOn" "[I") (by decide +kernel)
  have hl := lv_entry ([.ref (ad w), .int a1]) (n := 3) (Nat.le_of_ble_eq_true rfl)
  rw [lg_entry_eq]
  generalize (lg_sl ([.ref (ad w), .int a1]) ++ List.replicate (3 - (lg_sl ([.ref (ad w), .int a1])).length) Slot.unset).toArray = ls at hl ⊢
  have hl : lv_has ls 3 [(0, .ref (ad w)), (1, .int a1)] := hl
  refine lv_iconst (v := 0) hx hb dX9_postOf_0 (by decide) ?_
  refine lv_istore_n (lv' := [(2, .int 0), (0, .ref (ad w)), (1, .int a1)]) hx hb dX9_postOf_1 rfl hl (by decide) rfl (fun ls hl => ?_)
  have loop2 : ∀ (n : Nat) (k : Nat) (hk : k ≤ 6) (hv : qfind (A (w + 3)) a1 0 6 = qfind (A (w + 3)) a1 k (6 - k)), 6 - k < n → ∀ (H : Heap) (locs : List Loc) (ls : Array Slot), qM E ad S A b (qAr ad s.heap.size) s H locs → lv_has ls 3 [(2, .int (nI k)), (0, .ref (ad w)), (1, .int a1)] → W p l e (headSpec wsX9_postOf { frames := 0, cells := 0, slots := 0, locals := 0 }).room s m ([.ref (ad w), .int a1] : List Value).toArray below meth cd H locs 0 0 (MQ below (qQi E ad s.heap.size (fun r S' A' b' => (S = S' ∧ A = A' ∧ b = b') ∧ r = qfind (A (w + 3)) a1 0 6)) ([.ref (ad w), .int a1] : List Value).toArray s 0 0 (qAr ad s.heap.size)) (F0 m 2 ls []) := by
    intro n
    induction n with
    | zero => intro k hk hv hn; exact absurd hn (Nat.not_lt_zero _)
    | succ n ih =>
      intro k hk hv hn H locs ls hM hl
      refine lv_iload_n hx hb dX9_postOf_2 rfl (lv_at hl 0 rfl) ?_
      refine lv_bipush (v := 6) hx hb dX9_postOf_3 (by decide) ?_
      refine lv_icmp_ge (tgt := 26) hx hb dX9_postOf_5 (by decide) (fun c_5 => ?_) (fun c_5 => ?_)
      · skip
        have c_5 : 6 ≤ k := (nI_leI (a := 6) (b := k) (by omega) (by omega)).mp c_5
        refine lv_iconst (v := (-1)) hx hb dX9_postOf_26 (by decide) ?_
        exact q_iret C hM dX9_postOf_27 (by exact ⟨⟨rfl, rfl, rfl⟩, (by rw [hv, show 6 - k = 0 by omega]; rfl)⟩)
      · skip
        have c_5 : ¬ (6 ≤ k) := fun z => c_5 ((nI_leI (a := 6) (b := k) (by omega) (by omega)).mpr z)
        refine lv_aload_n hx hb dX9_postOf_8 rfl (lv_at hl 1 rfl) ?_
        refine q_get (o := w) (ci := 9) (k := 2) (T := TX9) (v := .ref (ad (w + 3))) C hM (qmem_9 E ad S A b kw) (by omega) rfl hi9 (by decide) hL0 rfl rfl dX9_postOf_9 ?_
        refine lv_iload_n hx hb dX9_postOf_12 rfl (lv_at hl 0 rfl) ?_
        refine q_iald (v := A (w + 3) k) C hM kw3 (by rw [lw3]; exact vp_nI (by omega) (by omega)) (by rw [nIc (by omega)]) dX9_postOf_13 ?_
        refine lv_iload_n hx hb dX9_postOf_14 rfl (lv_at hl 2 rfl) ?_
        refine lv_icmp_ne (tgt := 20) hx hb dX9_postOf_15 (by decide) (fun c_15 => ?_) (fun c_15 => ?_)
        · skip
          refine lv_iinc (v := nI (k + 1)) (lv' := [(2, .int (nI (k + 1))), (0, .ref (ad w)), (1, .int a1)]) hx hb dX9_postOf_20 hl (k := 0) rfl (by rw [nI_succ]; rfl) (by decide) rfl (fun ls hl => ?_)
          refine lv_goto (tgt := 2) hx hb dX9_postOf_23 (by decide) ?_
          exact ih (k + 1) (by omega) (by rw [hv, show 6 - k = (6 - (k + 1)) + 1 by omega]; exact if_neg c_15) (by omega) _ _ _ hM hl
        · skip
          refine lv_iload_n hx hb dX9_postOf_18 rfl (lv_at hl 0 rfl) ?_
          exact q_iret C hM dX9_postOf_19 (by exact ⟨⟨rfl, rfl, rfl⟩, (by rw [hv, show 6 - k = (6 - (k + 1)) + 1 by omega]; exact (if_pos c_15).symm)⟩)
  exact loop2 (6 - k + 1) 0 (by omega) rfl (Nat.lt_succ_self _) _ _ _ hM hl

set_option maxHeartbeats 4000000 in
set_option maxRecDepth 100000 in
theorem c_X9_worthOf (E : qE) (ad : Nat → Nat) (l : Launch) (S A : qA2) (b : qB) (w : Nat) (hw : qw w) (p : Nat) (hp : qpl p) (np nc : Nat) (hnp : np < 6) (hnc : nc < 5) : MI E ad l yX9_worthOf wsX9_worthOf { frames := 0, cells := 0, slots := 0, locals := 0 } [.ref (ad w), .ref (ad p), .int (nI np), .int (nI nc)] S A b (fun r S' A' b' => (S = S' ∧ A = A' ∧ b = b') ∧ r = A (w + 4) nc + A (p + 4) nc * A (p + 2) np) := by
  obtain ⟨⟨kw, kw1, kw2, kw3, kw4, kw5⟩, ⟨lw1, lw2, lw3, lw4, lw5⟩, bw, bw6⟩ := qw_all hw
  obtain ⟨⟨kp, kp1, kp2, kp3, kp4, kp5, kp6⟩, ⟨lp1, lp2, lp3, lp4, lp5, lp6⟩, bp, bp7⟩ := qpl_all hp
  refine MI.of (cc := cX9_worthOf) (maxL := 4) (ret := some .int) RX9 rfl (by decide) rfl ?_
  intro p e s m below meth cd C hM
  have hx := C.1
  have hb := C.2.1
  have hts := C.2.2.2.2.1
  have hA : ∀ q, s.heap.size ≤ q → qAr ad s.heap.size q := fun _ h => Or.inr h
  have hi5 : ∀ w ∈ u_ws RX5 TX5 13, w ∈ wsX9_worthOf := by decide +kernel
  have hi9 : ∀ w ∈ u_ws RX9 TX9 8, w ∈ wsX9_worthOf := by decide +kernel
  have hL0 := hts (.fieldLink RX9 21 "CrowFences$Winter" "bid" "[I") (by decide +kernel)
  have hL1 := hts (.fieldLink RX9 51 "CrowFences$Plan" "perView" "[I") (by decide +kernel)
  have hL2 := hts (.fieldLink RX9 54 "CrowFences$Plan" "view" "[I") (by decide +kernel)
  have hl := lv_entry ([.ref (ad w), .ref (ad p), .int (nI np), .int (nI nc)]) (n := 4) (Nat.le_of_ble_eq_true rfl)
  rw [lg_entry_eq]
  generalize (lg_sl ([.ref (ad w), .ref (ad p), .int (nI np), .int (nI nc)]) ++ List.replicate (4 - (lg_sl ([.ref (ad w), .ref (ad p), .int (nI np), .int (nI nc)])).length) Slot.unset).toArray = ls at hl ⊢
  have hl : lv_has ls 4 [(0, .ref (ad w)), (1, .ref (ad p)), (2, .int (nI np)), (3, .int (nI nc))] := hl
  refine lv_aload_n hx hb dX9_worthOf_0 rfl (lv_at hl 0 rfl) ?_
  refine q_get (o := w) (ci := 9) (k := 3) (T := TX9) (v := .ref (ad (w + 4))) C hM (qmem_9 E ad S A b kw) (by omega) rfl hi9 (by decide) hL0 rfl rfl dX9_worthOf_1 ?_
  refine lv_iload_n hx hb dX9_worthOf_4 rfl (lv_at hl 3 rfl) ?_
  refine q_iald (v := A (w + 4) nc) C hM kw4 (by rw [lw4]; exact vp_nI (by omega) (by omega)) (by rw [nIc (by omega)]) dX9_worthOf_5 ?_
  refine lv_aload_n hx hb dX9_worthOf_6 rfl (lv_at hl 1 rfl) ?_
  refine q_get (o := p) (ci := 5) (k := 10) (T := TX5) (v := .ref (ad (p + 4))) C hM (qmem_5 E ad S A b kp) (by omega) rfl hi5 (by decide) hL1 rfl rfl dX9_worthOf_7 ?_
  refine lv_iload_n hx hb dX9_worthOf_10 rfl (lv_at hl 3 rfl) ?_
  refine q_iald (v := A (p + 4) nc) C hM kp4 (by rw [lp4]; exact vp_nI (by omega) (by omega)) (by rw [nIc (by omega)]) dX9_worthOf_11 ?_
  refine lv_aload_n hx hb dX9_worthOf_12 rfl (lv_at hl 1 rfl) ?_
  refine q_get (o := p) (ci := 5) (k := 8) (T := TX5) (v := .ref (ad (p + 2))) C hM (qmem_5 E ad S A b kp) (by omega) rfl hi5 (by decide) hL2 rfl rfl dX9_worthOf_13 ?_
  refine lv_iload_n hx hb dX9_worthOf_16 rfl (lv_at hl 2 rfl) ?_
  refine q_iald (v := A (p + 2) np) C hM kp2 (by rw [lp2]; exact vp_nI (by omega) (by omega)) (by rw [nIc (by omega)]) dX9_worthOf_17 ?_
  refine lv_imul hx hb dX9_worthOf_18 ?_
  refine lv_iadd hx hb dX9_worthOf_19 ?_
  exact q_iret C hM dX9_worthOf_20 (by exact ⟨⟨rfl, rfl, rfl⟩, rfl⟩)
