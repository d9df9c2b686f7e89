set_option maxHeartbeats 4000000 in
set_option maxRecDepth 100000 in
theorem c_X5_isRoad (E : qE) (ad : Nat → Nat) (l : Launch) (S A : qA2) (b : qB) (p : Nat) (hp : qpl p) (a1 : Int32) : MI E ad l yX5_isRoad wsX5_isRoad { frames := 0, cells := 0, slots := 0, locals := 0 } [.ref (ad p), .int a1] S A b (fun r S' A' b' => (S = S' ∧ A = A' ∧ b = b') ∧ r = q01 (¬ qtb (S p 3) a1 = 0)) := by
  obtain ⟨⟨kp, kp1, kp2, kp3, kp4, kp5, kp6⟩, ⟨lp1, lp2, lp3, lp4, lp5, lp6⟩, bp, bp7⟩ := qpl_all hp
  refine MI.of (cc := cX5_isRoad) (maxL := 2) (ret := some .boolean) RX5 rfl (by decide) rfl ?_
  intro pg e s m below meth cd C hM
  have hx := C.1
  have hb := C.2.1
  have hts := C.2.2.2.2.1
  have hA : ∀ q, s.heap.size ≤ q → qAr ad s.heap.size q := fun _ h => Or.inr h
  have hi5 : ∀ w ∈ u_ws RX5 TX5 13, w ∈ wsX5_isRoad := by decide +kernel
  have hL0 := hts (.fieldLink RX5 34 "CrowFences$Plan" "road" "I") (by decide +kernel)
  have hl := lv_entry ([.ref (ad p), .int a1]) (n := 2) (Nat.le_of_ble_eq_true rfl)
  rw [lg_entry_eq]
  generalize (lg_sl ([.ref (ad p), .int a1]) ++ List.replicate (2 - (lg_sl ([.ref (ad p), .int a1])).length) Slot.unset).toArray = ls at hl ⊢
  have hl : lv_has ls 2 [(0, .ref (ad p)), (1, .int a1)] := hl
  refine lv_aload_n hx hb dX5_isRoad_0 rfl (lv_at hl 0 rfl) ?_
  refine q_get (o := p) (ci := 5) (k := 3) (T := TX5) (v := .int (S p 3)) C hM (qmem_5 E ad S A b kp) (by omega) rfl hi5 (by decide) hL0 rfl rfl dX5_isRoad_1 ?_
  refine lv_iload_n hx hb dX5_isRoad_4 rfl (lv_at hl 1 rfl) ?_
  refine lv_ishr hx hb dX5_isRoad_5 ?_
  refine lv_iconst (v := 1) hx hb dX5_isRoad_6 (by decide) ?_
  refine lv_iand hx hb dX5_isRoad_7 ?_
  refine lv_if_eq (tgt := 15) hx hb dX5_isRoad_8 (by decide) (fun c_8 => ?_) (fun c_8 => ?_)
  · skip
    refine lv_iconst (v := 0) hx hb dX5_isRoad_15 (by decide) ?_
    exact q_zret C hM dX5_isRoad_16 rfl (by exact ⟨⟨rfl, rfl, rfl⟩, by simp [q01, qtb, *]⟩)
  · skip
    refine lv_iconst (v := 1) hx hb dX5_isRoad_11 (by decide) ?_
    refine lv_goto (tgt := 16) hx hb dX5_isRoad_12 (by decide) ?_
    exact q_zret C hM dX5_isRoad_16 rfl (by exact ⟨⟨rfl, rfl, rfl⟩, by simp [q01, qtb, *]⟩)

set_option maxHeartbeats 4000000 in
set_option maxRecDepth 100000 in
theorem c_X9_postOf (E : qE) (ad : Nat → Nat) (l : Launch) (S A : qA2) (b : qB) (w : Nat) (hw : qw w) (a1 : Int32) : MI E ad l yX9_postOf wsX9_postOf { frames := 0, cells := 0, slots := 0, locals := 0 } [.ref (ad w), .int a1] S A b (fun r S' A' b' => (S = S' ∧ A = A' ∧ b = b') ∧ r = qfind (A (w + 3)) a1 0 6) := by
  obtain ⟨⟨kw, kw1, kw2, kw3, kw4, kw5⟩, ⟨lw1, lw2, lw3, lw4, lw5⟩, bw, bw6⟩ := qw_all hw
  refine MI.of (cc := cX9_postOf) (maxL := 3) (ret := some .int) RX9 rfl (by decide) rfl ?_
  intro pg e s m below meth cd C hM
  have hx := C.1
  have hb := C.2.1
  have hts := C.2.2.2.2.1
  have hA : ∀ q, s.heap.size ≤ q → qAr ad s.heap.size q := fun _ h => Or.inr h
  have hi9 : ∀ w ∈ u_ws RX9 TX9 8, w ∈ wsX9_postOf := by decide +kernel
  have hL0 := hts (.fieldLink RX9 18 "CrowFences$Winter" "crowOn" "[I") (by decide +kernel)
  have hl := lv_entry ([.ref (ad w), .int a1]) (n := 3) (Nat.le_of_ble_eq_true rfl)
  rw [lg_entry_eq]
  generalize (lg_sl ([.ref (ad w), .int a1]) ++ List.replicate (3 - (lg_sl ([.ref (ad w), .int a1])).length) Slot.unset).toArray = ls at hl ⊢
  have hl : lv_has ls 3 [(0, .ref (ad w)), (1, .int a1)] := hl
  refine lv_iconst (v := 0) hx hb dX9_postOf_0 (by decide) ?_
  refine lv_istore_n (lv' := [(2, .int 0), (0, .ref (ad w)), (1, .int a1)]) hx hb dX9_postOf_1 rfl hl (by decide) rfl (fun ls hl => ?_)
  have loop2 : ∀ (fu : Nat) (k : Nat) (hk : k ≤ 6) (hv : qfind (A (w + 3)) a1 0 6 = qfind (A (w + 3)) a1 k (6 - k)), 6 - k < fu → ∀ (H : Heap) (locs : List Loc) (ls : Array Slot), qM E ad S A b (qAr ad s.heap.size) s H locs → lv_has ls 3 [(2, .int (nI k)), (0, .ref (ad w)), (1, .int a1)] → W pg l e (headSpec wsX9_postOf { frames := 0, cells := 0, slots := 0, locals := 0 }).room s m ([.ref (ad w), .int a1] : List Value).toArray below meth cd H locs 0 0 (MQ below (qQi E ad s.heap.size (fun r S' A' b' => (S = S' ∧ A = A' ∧ b = b') ∧ r = qfind (A (w + 3)) a1 0 6)) ([.ref (ad w), .int a1] : List Value).toArray s 0 0 (qAr ad s.heap.size)) (F0 m 2 ls []) := by
    intro fu
    induction fu with
    | zero => intro k hk hv hn; exact absurd hn (Nat.not_lt_zero _)
    | succ fu ih2 =>
      intro k hk hv hn H locs ls hM hl
      refine lv_iload_n hx hb dX9_postOf_2 rfl (lv_at hl 0 rfl) ?_
      refine lv_bipush (v := 6) hx hb dX9_postOf_3 (by decide) ?_
      refine lv_icmp_ge (tgt := 26) hx hb dX9_postOf_5 (by decide) (fun c_5 => ?_) (fun c_5 => ?_)
      · skip
        have c_5 : 6 ≤ k := (nI_leI (a := 6) (b := k) (by omega) (by omega)).mp c_5
        refine lv_iconst (v := (-1)) hx hb dX9_postOf_26 (by decide) ?_
        exact q_iret C hM dX9_postOf_27 (by exact ⟨⟨rfl, rfl, rfl⟩, (by rw [hv, show 6 - k = 0 by omega]; rfl)⟩)
      · skip
        have c_5 : ¬ (6 ≤ k) := fun z => c_5 ((nI_leI (a := 6) (b := k) (by omega) (by omega)).mpr z)
        refine lv_aload_n hx hb dX9_postOf_8 rfl (lv_at hl 1 rfl) ?_
        refine q_get (o := w) (ci := 9) (k := 2) (T := TX9) (v := .ref (ad (w + 3))) C hM (qmem_9 E ad S A b kw) (by omega) rfl hi9 (by decide) hL0 rfl rfl dX9_postOf_9 ?_
        refine lv_iload_n hx hb dX9_postOf_12 rfl (lv_at hl 0 rfl) ?_
        refine q_iald (v := A (w + 3) k) C hM kw3 (by rw [lw3]; exact vp_nI (by omega) (by omega)) (by rw [nIc (by omega)]) dX9_postOf_13 ?_
        refine lv_iload_n hx hb dX9_postOf_14 rfl (lv_at hl 2 rfl) ?_
        refine lv_icmp_ne (tgt := 20) hx hb dX9_postOf_15 (by decide) (fun c_15 => ?_) (fun c_15 => ?_)
        · skip
          refine lv_iinc (v := nI (k + 1)) (lv' := [(2, .int (nI (k + 1))), (0, .ref (ad w)), (1, .int a1)]) hx hb dX9_postOf_20 hl (k := 0) rfl (by rw [nI_succ]; rfl) (by decide) rfl (fun ls hl => ?_)
          refine lv_goto (tgt := 2) hx hb dX9_postOf_23 (by decide) ?_
          exact ih2 (k + 1) (by omega) (by rw [hv, show 6 - k = (6 - (k + 1)) + 1 by omega]; exact if_neg c_15) (by omega) _ _ _ hM hl
        · skip
          refine lv_iload_n hx hb dX9_postOf_18 rfl (lv_at hl 0 rfl) ?_
          exact q_iret C hM dX9_postOf_19 (by exact ⟨⟨rfl, rfl, rfl⟩, (by rw [hv, show 6 - k = (6 - (k + 1)) + 1 by omega]; exact (if_pos c_15).symm)⟩)
  exact loop2 (6 - 0 + 1) 0 (by omega) rfl (Nat.lt_succ_self _) _ _ _ hM hl

set_option maxHeartbeats 4000000 in
set_option maxRecDepth 100000 in
theorem c_X9_worthOf (E : qE) (ad : Nat → Nat) (l : Launch) (S A : qA2) (b : qB) (w : Nat) (hw : qw w) (p : Nat) (hp : qpl p) (np nc : Nat) (hnp : np < 6) (hnc : nc < 5) : MI E ad l yX9_worthOf wsX9_worthOf { frames := 0, cells := 0, slots := 0, locals := 0 } [.ref (ad w), .ref (ad p), .int (nI np), .int (nI nc)] S A b (fun r S' A' b' => (S = S' ∧ A = A' ∧ b = b') ∧ r = A (w + 4) nc + A (p + 4) nc * A (p + 2) np) := by
  obtain ⟨⟨kw, kw1, kw2, kw3, kw4, kw5⟩, ⟨lw1, lw2, lw3, lw4, lw5⟩, bw, bw6⟩ := qw_all hw
  obtain ⟨⟨kp, kp1, kp2, kp3, kp4, kp5, kp6⟩, ⟨lp1, lp2, lp3, lp4, lp5, lp6⟩, bp, bp7⟩ := qpl_all hp
  refine MI.of (cc := cX9_worthOf) (maxL := 4) (ret := some .int) RX9 rfl (by decide) rfl ?_
  intro pg e s m below meth cd C hM
  have hx := C.1
  have hb := C.2.1
  have hts := C.2.2.2.2.1
  have hA : ∀ q, s.heap.size ≤ q → qAr ad s.heap.size q := fun _ h => Or.inr h
  have hi5 : ∀ w ∈ u_ws RX5 TX5 13, w ∈ wsX9_worthOf := by decide +kernel
  have hi9 : ∀ w ∈ u_ws RX9 TX9 8, w ∈ wsX9_worthOf := by decide +kernel
  have hL0 := hts (.fieldLink RX9 21 "CrowFences$Winter" "bid" "[I") (by decide +kernel)
  have hL1 := hts (.fieldLink RX9 51 "CrowFences$Plan" "perView" "[I") (by decide +kernel)
  have hL2 := hts (.fieldLink RX9 54 "CrowFences$Plan" "view" "[I") (by decide +kernel)
  have hl := lv_entry ([.ref (ad w), .ref (ad p), .int (nI np), .int (nI nc)]) (n := 4) (Nat.le_of_ble_eq_true rfl)
  rw [lg_entry_eq]
  generalize (lg_sl ([.ref (ad w), .ref (ad p), .int (nI np), .int (nI nc)]) ++ List.replicate (4 - (lg_sl ([.ref (ad w), .ref (ad p), .int (nI np), .int (nI nc)])).length) Slot.unset).toArray = ls at hl ⊢
  have hl : lv_has ls 4 [(0, .ref (ad w)), (1, .ref (ad p)), (2, .int (nI np)), (3, .int (nI nc))] := hl
  refine lv_aload_n hx hb dX9_worthOf_0 rfl (lv_at hl 0 rfl) ?_
  refine q_get (o := w) (ci := 9) (k := 3) (T := TX9) (v := .ref (ad (w + 4))) C hM (qmem_9 E ad S A b kw) (by omega) rfl hi9 (by decide) hL0 rfl rfl dX9_worthOf_1 ?_
  refine lv_iload_n hx hb dX9_worthOf_4 rfl (lv_at hl 3 rfl) ?_
  refine q_iald (v := A (w + 4) nc) C hM kw4 (by rw [lw4]; exact vp_nI (by omega) (by omega)) (by rw [nIc (by omega)]) dX9_worthOf_5 ?_
  refine lv_aload_n hx hb dX9_worthOf_6 rfl (lv_at hl 1 rfl) ?_
  refine q_get (o := p) (ci := 5) (k := 10) (T := TX5) (v := .ref (ad (p + 4))) C hM (qmem_5 E ad S A b kp) (by omega) rfl hi5 (by decide) hL1 rfl rfl dX9_worthOf_7 ?_
  refine lv_iload_n hx hb dX9_worthOf_10 rfl (lv_at hl 3 rfl) ?_
  refine q_iald (v := A (p + 4) nc) C hM kp4 (by rw [lp4]; exact vp_nI (by omega) (by omega)) (by rw [nIc (by omega)]) dX9_worthOf_11 ?_
  refine lv_aload_n hx hb dX9_worthOf_12 rfl (lv_at hl 1 rfl) ?_
  refine q_get (o := p) (ci := 5) (k := 8) (T := TX5) (v := .ref (ad (p + 2))) C hM (qmem_5 E ad S A b kp) (by omega) rfl hi5 (by decide) hL2 rfl rfl dX9_worthOf_13 ?_
  refine lv_iload_n hx hb dX9_worthOf_16 rfl (lv_at hl 2 rfl) ?_
  refine q_iald (v := A (p + 2) np) C hM kp2 (by rw [lp2]; exact vp_nI (by omega) (by omega)) (by rw [nIc (by omega)]) dX9_worthOf_17 ?_
  refine lv_imul hx hb dX9_worthOf_18 ?_
  refine lv_iadd hx hb dX9_worthOf_19 ?_
  exact q_iret C hM dX9_worthOf_20 (by exact ⟨⟨rfl, rfl, rfl⟩, rfl⟩)

set_option maxHeartbeats 4000000 in
set_option maxRecDepth 100000 in
theorem c_X9_allSnow (E : qE) (ad : Nat → Nat) (l : Launch) (S A : qA2) (b : qB) (w : Nat) (hw : qw w) : MI E ad l yX9_allSnow wsX9_allSnow { frames := 0, cells := 0, slots := 0, locals := 0 } [.ref (ad w)] S A b (fun r S' A' b' => (S = S' ∧ A = A' ∧ b = b') ∧ r = qsum (A (w + 1)) 12) := by
  obtain ⟨⟨kw, kw1, kw2, kw3, kw4, kw5⟩, ⟨lw1, lw2, lw3, lw4, lw5⟩, bw, bw6⟩ := qw_all hw
  refine MI.of (cc := cX9_allSnow) (maxL := 3) (ret := some .int) RX9 rfl (by decide) rfl ?_
  intro pg e s m below meth cd C hM
  have hx := C.1
  have hb := C.2.1
  have hts := C.2.2.2.2.1
  have hA : ∀ q, s.heap.size ≤ q → qAr ad s.heap.size q := fun _ h => Or.inr h
  have hi9 : ∀ w ∈ u_ws RX9 TX9 8, w ∈ wsX9_allSnow := by decide +kernel
  have hL0 := hts (.fieldLink RX9 9 "CrowFences$Winter" "snow" "[I") (by decide +kernel)
  have hl := lv_entry ([.ref (ad w)]) (n := 3) (Nat.le_of_ble_eq_true rfl)
  rw [lg_entry_eq]
  generalize (lg_sl ([.ref (ad w)]) ++ List.replicate (3 - (lg_sl ([.ref (ad w)])).length) Slot.unset).toArray = ls at hl ⊢
  have hl : lv_has ls 3 [(0, .ref (ad w))] := hl
  refine lv_iconst (v := 0) hx hb dX9_allSnow_0 (by decide) ?_
  refine lv_istore_n (lv' := [(1, .int 0), (0, .ref (ad w))]) hx hb dX9_allSnow_1 rfl hl (by decide) rfl (fun ls hl => ?_)
  refine lv_iconst (v := 0) hx hb dX9_allSnow_2 (by decide) ?_
  refine lv_istore_n (lv' := [(2, .int 0), (1, .int 0), (0, .ref (ad w))]) hx hb dX9_allSnow_3 rfl hl (by decide) rfl (fun ls hl => ?_)
  have loop4 : ∀ (fu : Nat) (t : Int32) (k : Nat) (hk : k ≤ 12) (ht : t = qsum (A (w + 1)) k), 12 - k < fu → ∀ (H : Heap) (locs : List Loc) (ls : Array Slot), qM E ad S A b (qAr ad s.heap.size) s H locs → lv_has ls 3 [(2, .int (nI k)), (1, .int t), (0, .ref (ad w))] → W pg l e (headSpec wsX9_allSnow { frames := 0, cells := 0, slots := 0, locals := 0 }).room s m ([.ref (ad w)] : List Value).toArray below meth cd H locs 0 0 (MQ below (qQi E ad s.heap.size (fun r S' A' b' => (S = S' ∧ A = A' ∧ b = b') ∧ r = qsum (A (w + 1)) 12)) ([.ref (ad w)] : List Value).toArray s 0 0 (qAr ad s.heap.size)) (F0 m 4 ls []) := by
    intro fu
    induction fu with
    | zero => intro t k hk ht hn; exact absurd hn (Nat.not_lt_zero _)
    | succ fu ih4 =>
      intro t k hk ht hn H locs ls hM hl
      refine lv_iload_n hx hb dX9_allSnow_4 rfl (lv_at hl 0 rfl) ?_
      refine lv_bipush (v := 12) hx hb dX9_allSnow_5 (by decide) ?_
      refine lv_icmp_ge (tgt := 25) hx hb dX9_allSnow_7 (by decide) (fun c_7 => ?_) (fun c_7 => ?_)
      · skip
        have c_7 : 12 ≤ k := (nI_leI (a := 12) (b := k) (by omega) (by omega)).mp c_7
        refine lv_iload_n hx hb dX9_allSnow_25 rfl (lv_at hl 1 rfl) ?_
        exact q_iret C hM dX9_allSnow_26 (by exact ⟨⟨rfl, rfl, rfl⟩, (by rw [ht, show k = 12 by omega])⟩)
      · skip
        have c_7 : ¬ (12 ≤ k) := fun z => c_7 ((nI_leI (a := 12) (b := k) (by omega) (by omega)).mpr z)
        refine lv_iload_n hx hb dX9_allSnow_10 rfl (lv_at hl 1 rfl) ?_
        refine lv_aload_n hx hb dX9_allSnow_11 rfl (lv_at hl 2 rfl) ?_
        refine q_get (o := w) (ci := 9) (k := 0) (T := TX9) (v := .ref (ad (w + 1))) C hM (qmem_9 E ad S A b kw) (by omega) rfl hi9 (by decide) hL0 rfl rfl dX9_allSnow_12 ?_
        refine lv_iload_n hx hb dX9_allSnow_15 rfl (lv_at hl 0 rfl) ?_
        refine q_iald (v := A (w + 1) k) C hM kw1 (by rw [lw1]; exact vp_nI (by omega) (by omega)) (by rw [nIc (by omega)]) dX9_allSnow_16 ?_
        refine lv_iadd hx hb dX9_allSnow_17 ?_
        refine lv_topi (fun x1_1 ex1_1 => ?_)
        refine lv_istore_n (lv' := [(1, .int x1_1), (2, .int (nI k)), (0, .ref (ad w))]) hx hb dX9_allSnow_18 rfl hl (by decide) rfl (fun ls hl => ?_)
        refine lv_iinc (v := nI (k + 1)) (lv' := [(2, .int (nI (k + 1))), (1, .int x1_1), (0, .ref (ad w))]) hx hb dX9_allSnow_19 hl (k := 1) rfl (by rw [nI_succ]; rfl) (by decide) rfl (fun ls hl => ?_)
        refine lv_goto (tgt := 4) hx hb dX9_allSnow_22 (by decide) ?_
        exact ih4 x1_1 (k + 1) (by omega) (by rw [ex1_1, ht]; rfl) (by omega) _ _ _ hM hl
  exact loop4 (12 - 0 + 1) 0 0 (by omega) rfl (Nat.lt_succ_self _) _ _ _ hM hl

set_option maxHeartbeats 4000000 in
set_option maxRecDepth 100000 in
theorem c_X9_letPosts (E : qE) (ad : Nat → Nat) (l : Launch) (S A : qA2) (b : qB) (w : Nat) (hw : qw w) : MI E ad l yX9_letPosts wsX9_letPosts { frames := 0, cells := 0, slots := 0, locals := 0 } [.ref (ad w)] S A b (fun r S' A' b' => (S = S' ∧ A = A' ∧ b = b') ∧ r = qlets (A (w + 3)) 6) := by
  obtain ⟨⟨kw, kw1, kw2, kw3, kw4, kw5⟩, ⟨lw1, lw2, lw3, lw4, lw5⟩, bw, bw6⟩ := qw_all hw
  refine MI.of (cc := cX9_letPosts) (maxL := 3) (ret := some .int) RX9 rfl (by decide) rfl ?_
  intro pg e s m below meth cd C hM
  have hx := C.1
  have hb := C.2.1
  have hts := C.2.2.2.2.1
  have hA : ∀ q, s.heap.size ≤ q → qAr ad s.heap.size q := fun _ h => Or.inr h
  have hi9 : ∀ w ∈ u_ws RX9 TX9 8, w ∈ wsX9_letPosts := by decide +kernel
  have hL0 := hts (.fieldLink RX9 18 "CrowFences$Winter" "crowOn" "[I") (by decide +kernel)
  have hl := lv_entry ([.ref (ad w)]) (n := 3) (Nat.le_of_ble_eq_true rfl)
  rw [lg_entry_eq]
  generalize (lg_sl ([.ref (ad w)]) ++ List.replicate (3 - (lg_sl ([.ref (ad w)])).length) Slot.unset).toArray = ls at hl ⊢
  have hl : lv_has ls 3 [(0, .ref (ad w))] := hl
  refine lv_iconst (v := 0) hx hb dX9_letPosts_0 (by decide) ?_
  refine lv_istore_n (lv' := [(1, .int 0), (0, .ref (ad w))]) hx hb dX9_letPosts_1 rfl hl (by decide) rfl (fun ls hl => ?_)
  refine lv_iconst (v := 0) hx hb dX9_letPosts_2 (by decide) ?_
  refine lv_istore_n (lv' := [(2, .int 0), (1, .int 0), (0, .ref (ad w))]) hx hb dX9_letPosts_3 rfl hl (by decide) rfl (fun ls hl => ?_)
  have loop4 : ∀ (fu : Nat) (t : Int32) (k : Nat) (hk : k ≤ 6) (ht : t = qlets (A (w + 3)) k), 6 - k < fu → ∀ (H : Heap) (locs : List Loc) (ls : Array Slot), qM E ad S A b (qAr ad s.heap.size) s H locs → lv_has ls 3 [(2, .int (nI k)), (1, .int t), (0, .ref (ad w))] → W pg l e (headSpec wsX9_letPosts { frames := 0, cells := 0, slots := 0, locals := 0 }).room s m ([.ref (ad w)] : List Value).toArray below meth cd H locs 0 0 (MQ below (qQi E ad s.heap.size (fun r S' A' b' => (S = S' ∧ A = A' ∧ b = b') ∧ r = qlets (A (w + 3)) 6)) ([.ref (ad w)] : List Value).toArray s 0 0 (qAr ad s.heap.size)) (F0 m 4 ls []) := by
    intro fu
    induction fu with
    | zero => intro t k hk ht hn; exact absurd hn (Nat.not_lt_zero _)
    | succ fu ih4 =>
      intro t k hk ht hn H locs ls hM hl
      refine lv_iload_n hx hb dX9_letPosts_4 rfl (lv_at hl 0 rfl) ?_
      refine lv_bipush (v := 6) hx hb dX9_letPosts_5 (by decide) ?_
      refine lv_icmp_ge (tgt := 32) hx hb dX9_letPosts_7 (by decide) (fun c_7 => ?_) (fun c_7 => ?_)
      · skip
        have c_7 : 6 ≤ k := (nI_leI (a := 6) (b := k) (by omega) (by omega)).mp c_7
        refine lv_iload_n hx hb dX9_letPosts_32 rfl (lv_at hl 1 rfl) ?_
        exact q_iret C hM dX9_letPosts_33 (by exact ⟨⟨rfl, rfl, rfl⟩, (by rw [ht, show k = 6 by omega])⟩)
      · skip
        have c_7 : ¬ (6 ≤ k) := fun z => c_7 ((nI_leI (a := 6) (b := k) (by omega) (by omega)).mpr z)
        refine lv_aload_n hx hb dX9_letPosts_10 rfl (lv_at hl 2 rfl) ?_
        refine q_get (o := w) (ci := 9) (k := 2) (T := TX9) (v := .ref (ad (w + 3))) C hM (qmem_9 E ad S A b kw) (by omega) rfl hi9 (by decide) hL0 rfl rfl dX9_letPosts_11 ?_
        refine lv_iload_n hx hb dX9_letPosts_14 rfl (lv_at hl 0 rfl) ?_
        refine q_iald (v := A (w + 3) k) C hM kw3 (by rw [lw3]; exact vp_nI (by omega) (by omega)) (by rw [nIc (by omega)]) dX9_letPosts_15 ?_
        refine lv_iconst (v := (-1)) hx hb dX9_letPosts_16 (by decide) ?_
        refine lv_icmp_eq (tgt := 26) hx hb dX9_letPosts_17 (by decide) (fun c_17 => ?_) (fun c_17 => ?_)
        · skip
          refine lv_iinc (v := nI (k + 1)) (lv' := [(2, .int (nI (k + 1))), (1, .int t), (0, .ref (ad w))]) hx hb dX9_letPosts_26 hl (k := 0) rfl (by rw [nI_succ]; rfl) (by decide) rfl (fun ls hl => ?_)
          refine lv_goto (tgt := 4) hx hb dX9_letPosts_29 (by decide) ?_
          exact ih4 t (k + 1) (by omega) (by first | (rw [et, ht]; simp [qlets, qor, qbit, c_17]; done) | (rw [ht]; simp [qlets, qor, c_17, i32_or0]; done)) (by omega) _ _ _ hM hl
        · skip
          refine lv_iload_n hx hb dX9_letPosts_20 rfl (lv_at hl 1 rfl) ?_
          refine lv_iconst (v := 1) hx hb dX9_letPosts_21 (by decide) ?_
          refine lv_iload_n hx hb dX9_letPosts_22 rfl (lv_at hl 0 rfl) ?_
          refine lv_ishl hx hb dX9_letPosts_23 ?_
          refine lv_ior hx hb dX9_letPosts_24 ?_
          refine lv_topi (fun x1_1 ex1_1 => ?_)
          refine lv_istore_n (lv' := [(1, .int x1_1), (2, .int (nI k)), (0, .ref (ad w))]) hx hb dX9_letPosts_25 rfl hl (by decide) rfl (fun ls hl => ?_)
          refine lv_iinc (v := nI (k + 1)) (lv' := [(2, .int (nI (k + 1))), (1, .int x1_1), (0, .ref (ad w))]) hx hb dX9_letPosts_26 hl (k := 1) rfl (by rw [nI_succ]; rfl) (by decide) rfl (fun ls hl => ?_)
          refine lv_goto (tgt := 4) hx hb dX9_letPosts_29 (by decide) ?_
          exact ih4 x1_1 (k + 1) (by omega) (by first | (rw [ex1_1, ht]; simp [qlets, qor, qbit, c_17]; done) | (rw [ht]; simp [qlets, qor, c_17, i32_or0]; done)) (by omega) _ _ _ hM hl
  exact loop4 (6 - 0 + 1) 0 0 (by omega) rfl (Nat.lt_succ_self _) _ _ _ hM hl

set_option maxHeartbeats 4000000 in
set_option maxRecDepth 100000 in
theorem c_X9_fencedCells (E : qE) (ad : Nat → Nat) (l : Launch) (S A : qA2) (b : qB) (w : Nat) (hw : qw w) (nP : Nat) (hPb : nP ≤ 6) : MI E ad l yX9_fencedCells wsX9_fencedCells { frames := 0, cells := 0, slots := 0, locals := 0 } [.ref (ad w), .int (nI nP)] S A b (fun r S' A' b' => (S = S' ∧ A = A' ∧ b = b') ∧ r = qfenced (A (w + 2)) (S w 5) nP) := by
  obtain ⟨⟨kw, kw1, kw2, kw3, kw4, kw5⟩, ⟨lw1, lw2, lw3, lw4, lw5⟩, bw, bw6⟩ := qw_all hw
  refine MI.of (cc := cX9_fencedCells) (maxL := 4) (ret := some .int) RX9 rfl (by decide) rfl ?_
  intro pg e s m below meth cd C hM
  have hx := C.1
  have hb := C.2.1
  have hts := C.2.2.2.2.1
  have hA : ∀ q, s.heap.size ≤ q → qAr ad s.heap.size q := fun _ h => Or.inr h
  have hi9 : ∀ w ∈ u_ws RX9 TX9 8, w ∈ wsX9_fencedCells := by decide +kernel
  have hL0 := hts (.fieldLink RX9 35 "CrowFences$Winter" "standing" "I") (by decide +kernel)
  have hL1 := hts (.fieldLink RX9 15 "CrowFences$Winter" "cellOf" "[I") (by decide +kernel)
  have hl := lv_entry ([.ref (ad w), .int (nI nP)]) (n := 4) (Nat.le_of_ble_eq_true rfl)
  rw [lg_entry_eq]
  generalize (lg_sl ([.ref (ad w), .int (nI nP)]) ++ List.replicate (4 - (lg_sl ([.ref (ad w), .int (nI nP)])).length) Slot.unset).toArray = ls at hl ⊢
  have hl : lv_has ls 4 [(0, .ref (ad w)), (1, .int (nI nP))] := hl
  refine lv_iconst (v := 0) hx hb dX9_fencedCells_0 (by decide) ?_
  refine lv_istore_n (lv' := [(2, .int 0), (0, .ref (ad w)), (1, .int (nI nP))]) hx hb dX9_fencedCells_1 rfl hl (by decide) rfl (fun ls hl => ?_)
  refine lv_iconst (v := 0) hx hb dX9_fencedCells_2 (by decide) ?_
  refine lv_istore_n (lv' := [(3, .int 0), (2, .int 0), (0, .ref (ad w)), (1, .int (nI nP))]) hx hb dX9_fencedCells_3 rfl hl (by decide) rfl (fun ls hl => ?_)
  have loop4 : ∀ (fu : Nat) (t : Int32) (k : Nat) (hk : k ≤ nP) (ht : t = qfenced (A (w + 2)) (S w 5) k), nP - k < fu → ∀ (H : Heap) (locs : List Loc) (ls : Array Slot), qM E ad S A b (qAr ad s.heap.size) s H locs → lv_has ls 4 [(3, .int (nI k)), (2, .int t), (0, .ref (ad w)), (1, .int (nI nP))] → W pg l e (headSpec wsX9_fencedCells { frames := 0, cells := 0, slots := 0, locals := 0 }).room s m ([.ref (ad w), .int (nI nP)] : List Value).toArray below meth cd H locs 0 0 (MQ below (qQi E ad s.heap.size (fun r S' A' b' => (S = S' ∧ A = A' ∧ b = b') ∧ r = qfenced (A (w + 2)) (S w 5) nP)) ([.ref (ad w), .int (nI nP)] : List Value).toArray s 0 0 (qAr ad s.heap.size)) (F0 m 4 ls []) := by
    intro fu
    induction fu with
    | zero => intro t k hk ht hn; exact absurd hn (Nat.not_lt_zero _)
    | succ fu ih4 =>
      intro t k hk ht hn H locs ls hM hl
      refine lv_iload_n hx hb dX9_fencedCells_4 rfl (lv_at hl 0 rfl) ?_
      refine lv_iload_n hx hb dX9_fencedCells_5 rfl (lv_at hl 3 rfl) ?_
      refine lv_icmp_ge (tgt := 37) hx hb dX9_fencedCells_6 (by decide) (fun c_6 => ?_) (fun c_6 => ?_)
      · skip
        have c_6 : nP ≤ k := (nI_leI (a := nP) (b := k) (by omega) (by omega)).mp c_6
        refine lv_iload_n hx hb dX9_fencedCells_37 rfl (lv_at hl 1 rfl) ?_
        exact q_iret C hM dX9_fencedCells_38 (by exact ⟨⟨rfl, rfl, rfl⟩, (by rw [ht, show k = nP by omega])⟩)
      · skip
        have c_6 : ¬ (nP ≤ k) := fun z => c_6 ((nI_leI (a := nP) (b := k) (by omega) (by omega)).mpr z)
        refine lv_aload_n hx hb dX9_fencedCells_9 rfl (lv_at hl 2 rfl) ?_
        refine q_get (o := w) (ci := 9) (k := 5) (T := TX9) (v := .int (S w 5)) C hM (qmem_9 E ad S A b kw) (by omega) rfl hi9 (by decide) hL0 rfl rfl dX9_fencedCells_10 ?_
        refine lv_iload_n hx hb dX9_fencedCells_13 rfl (lv_at hl 0 rfl) ?_
        refine lv_ishr hx hb dX9_fencedCells_14 ?_
        refine lv_iconst (v := 1) hx hb dX9_fencedCells_15 (by decide) ?_
        refine lv_iand hx hb dX9_fencedCells_16 ?_
        refine lv_if_eq (tgt := 31) hx hb dX9_fencedCells_17 (by decide) (fun c_17 => ?_) (fun c_17 => ?_)
        · skip
          refine lv_iinc (v := nI (k + 1)) (lv' := [(3, .int (nI (k + 1))), (2, .int t), (0, .ref (ad w)), (1, .int (nI nP))]) hx hb dX9_fencedCells_31 hl (k := 0) rfl (by rw [nI_succ]; rfl) (by decide) rfl (fun ls hl => ?_)
          refine lv_goto (tgt := 4) hx hb dX9_fencedCells_34 (by decide) ?_
          exact ih4 t (k + 1) (by omega) (by first | (rw [et, ht]; simp [qfenced, qor, qtb, c_17]; done) | (rw [ht]; simp [qfenced, qor, qtb, c_17, i32_or0]; done)) (by omega) _ _ _ hM hl
        · skip
          refine lv_iload_n hx hb dX9_fencedCells_20 rfl (lv_at hl 1 rfl) ?_
          refine lv_iconst (v := 1) hx hb dX9_fencedCells_21 (by decide) ?_
          refine lv_aload_n hx hb dX9_fencedCells_22 rfl (lv_at hl 2 rfl) ?_
          refine q_get (o := w) (ci := 9) (k := 1) (T := TX9) (v := .ref (ad (w + 2))) C hM (qmem_9 E ad S A b kw) (by omega) rfl hi9 (by decide) hL1 rfl rfl dX9_fencedCells_23 ?_
          refine lv_iload_n hx hb dX9_fencedCells_26 rfl (lv_at hl 0 rfl) ?_
          refine q_iald (v := A (w + 2) k) C hM kw2 (by rw [lw2]; exact vp_nI (by omega) (by omega)) (by rw [nIc (by omega)]) dX9_fencedCells_27 ?_
          refine lv_ishl hx hb dX9_fencedCells_28 ?_
          refine lv_ior hx hb dX9_fencedCells_29 ?_
          refine lv_topi (fun x2_1 ex2_1 => ?_)
          refine lv_istore_n (lv' := [(2, .int x2_1), (3, .int (nI k)), (0, .ref (ad w)), (1, .int (nI nP))]) hx hb dX9_fencedCells_30 rfl hl (by decide) rfl (fun ls hl => ?_)
          refine lv_iinc (v := nI (k + 1)) (lv' := [(3, .int (nI (k + 1))), (2, .int x2_1), (0, .ref (ad w)), (1, .int (nI nP))]) hx hb dX9_fencedCells_31 hl (k := 1) rfl (by rw [nI_succ]; rfl) (by decide) rfl (fun ls hl => ?_)
          refine lv_goto (tgt := 4) hx hb dX9_fencedCells_34 (by decide) ?_
          exact ih4 x2_1 (k + 1) (by omega) (by first | (rw [ex2_1, ht]; simp [qfenced, qor, qtb, c_17]; done) | (rw [ht]; simp [qfenced, qor, qtb, c_17, i32_or0]; done)) (by omega) _ _ _ hM hl
  exact loop4 (nP - 0 + 1) 0 0 (by omega) rfl (Nat.lt_succ_self _) _ _ _ hM hl

set_option maxHeartbeats 4000000 in
set_option maxRecDepth 100000 in
theorem c_X5_allCells (E : qE) (ad : Nat → Nat) (l : Launch) (S A : qA2) (b : qB) (p : Nat) (hp : qpl p) (nC : Nat) (hC : S p 0 = nI nC) (hCb : nC ≤ 12) : MI E ad l yX5_allCells wsX5_allCells { frames := 0, cells := 0, slots := 0, locals := 0 } [.ref (ad p)] S A b (fun r S' A' b' => (S = S' ∧ A = A' ∧ b = b') ∧ r = qall nC) := by
  obtain ⟨⟨kp, kp1, kp2, kp3, kp4, kp5, kp6⟩, ⟨lp1, lp2, lp3, lp4, lp5, lp6⟩, bp, bp7⟩ := qpl_all hp
  refine MI.of (cc := cX5_allCells) (maxL := 1) (ret := some .int) RX5 rfl (by decide) rfl ?_
  intro pg e s m below meth cd C hM
  have hx := C.1
  have hb := C.2.1
  have hts := C.2.2.2.2.1
  have hA : ∀ q, s.heap.size ≤ q → qAr ad s.heap.size q := fun _ h => Or.inr h
  have hi5 : ∀ w ∈ u_ws RX5 TX5 13, w ∈ wsX5_allCells := by decide +kernel
  have hL0 := hts (.fieldLink RX5 30 "CrowFences$Plan" "cells" "I") (by decide +kernel)
  have hl := lv_entry ([.ref (ad p)]) (n := 1) (Nat.le_of_ble_eq_true rfl)
  rw [lg_entry_eq]
  generalize (lg_sl ([.ref (ad p)]) ++ List.replicate (1 - (lg_sl ([.ref (ad p)])).length) Slot.unset).toArray = ls at hl ⊢
  have hl : lv_has ls 1 [(0, .ref (ad p))] := hl
  refine lv_iconst (v := 1) hx hb dX5_allCells_0 (by decide) ?_
  refine lv_aload_n hx hb dX5_allCells_1 rfl (lv_at hl 0 rfl) ?_
  refine q_get (o := p) (ci := 5) (k := 0) (T := TX5) (v := .int (S p 0)) C hM (qmem_5 E ad S A b kp) (by omega) rfl hi5 (by decide) hL0 rfl rfl dX5_allCells_2 ?_
  refine lv_as (y := nI nC) hC ?_
  refine lv_ishl hx hb dX5_allCells_5 ?_
  refine lv_iconst (v := 1) hx hb dX5_allCells_6 (by decide) ?_
  refine lv_isub hx hb dX5_allCells_7 ?_
  exact q_iret C hM dX5_allCells_8 (by exact ⟨⟨rfl, rfl, rfl⟩, rfl⟩)

set_option maxHeartbeats 4000000 in
set_option maxRecDepth 100000 in
theorem c_X5_allPosts (E : qE) (ad : Nat → Nat) (l : Launch) (S A : qA2) (b : qB) (p : Nat) (hp : qpl p) (nP : Nat) (hPo : S p 4 = nI nP) (hPb : nP ≤ 6) : MI E ad l yX5_allPosts wsX5_allPosts { frames := 0, cells := 0, slots := 0, locals := 0 } [.ref (ad p)] S A b (fun r S' A' b' => (S = S' ∧ A = A' ∧ b = b') ∧ r = qall nP) := by
  obtain ⟨⟨kp, kp1, kp2, kp3, kp4, kp5, kp6⟩, ⟨lp1, lp2, lp3, lp4, lp5, lp6⟩, bp, bp7⟩ := qpl_all hp
  refine MI.of (cc := cX5_allPosts) (maxL := 1) (ret := some .int) RX5 rfl (by decide) rfl ?_
  intro pg e s m below meth cd C hM
  have hx := C.1
  have hb := C.2.1
  have hts := C.2.2.2.2.1
  have hA : ∀ q, s.heap.size ≤ q → qAr ad s.heap.size q := fun _ h => Or.inr h
  have hi5 : ∀ w ∈ u_ws RX5 TX5 13, w ∈ wsX5_allPosts := by decide +kernel
  have hL0 := hts (.fieldLink RX5 37 "CrowFences$Plan" "posts" "I") (by decide +kernel)
  have hl := lv_entry ([.ref (ad p)]) (n := 1) (Nat.le_of_ble_eq_true rfl)
  rw [lg_entry_eq]
  generalize (lg_sl ([.ref (ad p)]) ++ List.replicate (1 - (lg_sl ([.ref (ad p)])).length) Slot.unset).toArray = ls at hl ⊢
  have hl : lv_has ls 1 [(0, .ref (ad p))] := hl
  refine lv_iconst (v := 1) hx hb dX5_allPosts_0 (by decide) ?_
  refine lv_aload_n hx hb dX5_allPosts_1 rfl (lv_at hl 0 rfl) ?_
  refine q_get (o := p) (ci := 5) (k := 4) (T := TX5) (v := .int (S p 4)) C hM (qmem_5 E ad S A b kp) (by omega) rfl hi5 (by decide) hL0 rfl rfl dX5_allPosts_2 ?_
  refine lv_as (y := nI nP) hPo ?_
  refine lv_ishl hx hb dX5_allPosts_5 ?_
  refine lv_iconst (v := 1) hx hb dX5_allPosts_6 (by decide) ?_
  refine lv_isub hx hb dX5_allPosts_7 ?_
  exact q_iret C hM dX5_allPosts_8 (by exact ⟨⟨rfl, rfl, rfl⟩, rfl⟩)

set_option maxHeartbeats 4000000 in
set_option maxRecDepth 100000 in
theorem c_X5_hasPostIn (E : qE) (ad : Nat → Nat) (l : Launch) (S A : qA2) (b : qB) (p : Nat) (hp : qpl p) (a1 : Int32) (nP : Nat) (hPo : S p 4 = nI nP) (hPb : nP ≤ 6) : MI E ad l yX5_hasPostIn wsX5_hasPostIn { frames := 0, cells := 0, slots := 0, locals := 0 } [.ref (ad p), .int a1] S A b (fun r S' A' b' => (S = S' ∧ A = A' ∧ b = b') ∧ r = q01 (¬ qfind (A (p + 1)) a1 0 nP = -1)) := by
  obtain ⟨⟨kp, kp1, kp2, kp3, kp4, kp5, kp6⟩, ⟨lp1, lp2, lp3, lp4, lp5, lp6⟩, bp, bp7⟩ := qpl_all hp
  refine MI.of (cc := cX5_hasPostIn) (maxL := 3) (ret := some .boolean) RX5 rfl (by decide) rfl ?_
  intro pg e s m below meth cd C hM
  have hx := C.1
  have hb := C.2.1
  have hts := C.2.2.2.2.1
  have hA : ∀ q, s.heap.size ≤ q → qAr ad s.heap.size q := fun _ h => Or.inr h
  have hi5 : ∀ w ∈ u_ws RX5 TX5 13, w ∈ wsX5_hasPostIn := by decide +kernel
  have hL0 := hts (.fieldLink RX5 37 "CrowFences$Plan" "posts" "I") (by decide +kernel)
  have hL1 := hts (.fieldLink RX5 9 "CrowFences$Plan" "cellOf" "[I") (by decide +kernel)
  have hl := lv_entry ([.ref (ad p), .int a1]) (n := 3) (Nat.le_of_ble_eq_true rfl)
  rw [lg_entry_eq]
  generalize (lg_sl ([.ref (ad p), .int a1]) ++ List.replicate (3 - (lg_sl ([.ref (ad p), .int a1])).length) Slot.unset).toArray = ls at hl ⊢
  have hl : lv_has ls 3 [(0, .ref (ad p)), (1, .int a1)] := hl
  refine lv_iconst (v := 0) hx hb dX5_hasPostIn_0 (by decide) ?_
  refine lv_istore_n (lv' := [(2, .int 0), (0, .ref (ad p)), (1, .int a1)]) hx hb dX5_hasPostIn_1 rfl hl (by decide) rfl (fun ls hl => ?_)
  have loop2 : ∀ (fu : Nat) (k : Nat) (hk : k ≤ nP) (hv : qfind (A (p + 1)) a1 0 nP = qfind (A (p + 1)) a1 k (nP - k)), nP - k < fu → ∀ (H : Heap) (locs : List Loc) (ls : Array Slot), qM E ad S A b (qAr ad s.heap.size) s H locs → lv_has ls 3 [(2, .int (nI k)), (0, .ref (ad p)), (1, .int a1)] → W pg l e (headSpec wsX5_hasPostIn { frames := 0, cells := 0, slots := 0, locals := 0 }).room s m ([.ref (ad p), .int a1] : List Value).toArray below meth cd H locs 0 0 (MQ below (qQi E ad s.heap.size (fun r S' A' b' => (S = S' ∧ A = A' ∧ b = b') ∧ r = q01 (¬ qfind (A (p + 1)) a1 0 nP = -1))) ([.ref (ad p), .int a1] : List Value).toArray s 0 0 (qAr ad s.heap.size)) (F0 m 2 ls []) := by
    intro fu
    induction fu with
    | zero => intro k hk hv hn; exact absurd hn (Nat.not_lt_zero _)
    | succ fu ih2 =>
      intro k hk hv hn H locs ls hM hl
      refine lv_iload_n hx hb dX5_hasPostIn_2 rfl (lv_at hl 0 rfl) ?_
      refine lv_aload_n hx hb dX5_hasPostIn_3 rfl (lv_at hl 1 rfl) ?_
      refine q_get (o := p) (ci := 5) (k := 4) (T := TX5) (v := .int (S p 4)) C hM (qmem_5 E ad S A b kp) (by omega) rfl hi5 (by decide) hL0 rfl rfl dX5_hasPostIn_4 ?_
      refine lv_as (y := nI nP) hPo ?_
      refine lv_icmp_ge (tgt := 28) hx hb dX5_hasPostIn_7 (by decide) (fun c_7 => ?_) (fun c_7 => ?_)
      · skip
        have c_7 : nP ≤ k := (nI_leI (a := nP) (b := k) (by omega) (by omega)).mp c_7
        refine lv_iconst (v := 0) hx hb dX5_hasPostIn_28 (by decide) ?_
        exact q_zret C hM dX5_hasPostIn_29 rfl (by exact ⟨⟨rfl, rfl, rfl⟩, (by rw [hv, show nP - k = 0 by omega]; rfl)⟩)
      · skip
        have c_7 : ¬ (nP ≤ k) := fun z => c_7 ((nI_leI (a := nP) (b := k) (by omega) (by omega)).mpr z)
        refine lv_aload_n hx hb dX5_hasPostIn_10 rfl (lv_at hl 1 rfl) ?_
        refine q_get (o := p) (ci := 5) (k := 7) (T := TX5) (v := .ref (ad (p + 1))) C hM (qmem_5 E ad S A b kp) (by omega) rfl hi5 (by decide) hL1 rfl rfl dX5_hasPostIn_11 ?_
        refine lv_iload_n hx hb dX5_hasPostIn_14 rfl (lv_at hl 0 rfl) ?_
        refine q_iald (v := A (p + 1) k) C hM kp1 (by rw [lp1]; exact vp_nI (by omega) (by omega)) (by rw [nIc (by omega)]) dX5_hasPostIn_15 ?_
        refine lv_iload_n hx hb dX5_hasPostIn_16 rfl (lv_at hl 2 rfl) ?_
        refine lv_icmp_ne (tgt := 22) hx hb dX5_hasPostIn_17 (by decide) (fun c_17 => ?_) (fun c_17 => ?_)
        · skip
          refine lv_iinc (v := nI (k + 1)) (lv' := [(2, .int (nI (k + 1))), (0, .ref (ad p)), (1, .int a1)]) hx hb dX5_hasPostIn_22 hl (k := 0) rfl (by rw [nI_succ]; rfl) (by decide) rfl (fun ls hl => ?_)
          refine lv_goto (tgt := 2) hx hb dX5_hasPostIn_25 (by decide) ?_
          exact ih2 (k + 1) (by omega) (by rw [hv, show nP - k = (nP - (k + 1)) + 1 by omega]; exact if_neg c_17) (by omega) _ _ _ hM hl
        · skip
          refine lv_iconst (v := 1) hx hb dX5_hasPostIn_20 (by decide) ?_
          exact q_zret C hM dX5_hasPostIn_21 rfl (by exact ⟨⟨rfl, rfl, rfl⟩, (by rw [hv, show nP - k = (nP - (k + 1)) + 1 by omega]; show (1 : Int32) = q01 (¬ (if A (p + 1) k = a1 then nI k else _) = -1); rw [if_pos c_17]; simp [q01, nI_nm1 (show k < 1000 by omega)])⟩)
  exact loop2 (nP - 0 + 1) 0 (by omega) rfl (Nat.lt_succ_self _) _ _ _ hM hl

set_option maxHeartbeats 4000000 in
set_option maxRecDepth 100000 in
theorem c_X5_clear (E : qE) (ad : Nat → Nat) (l : Launch) (S A : qA2) (b : qB) (p : Nat) (hp : qpl p) : MV E ad l yX5_clear wsX5_clear { frames := 0, cells := 0, slots := 0, locals := 0 } [.ref (ad p)] S A b (fun S' A' b' => S' = q2 (q2 (q2 (q2 (q2 S p 0 0) p 3 0) p 4 0) p 5 0) p 6 0 ∧ A = A' ∧ b = b') := by
  obtain ⟨⟨kp, kp1, kp2, kp3, kp4, kp5, kp6⟩, ⟨lp1, lp2, lp3, lp4, lp5, lp6⟩, bp, bp7⟩ := qpl_all hp
  refine MV.of (cc := cX5_clear) (maxL := 1) (ret := none) RX5 rfl (by decide) rfl ?_
  intro pg e s m below meth cd C hM
  have hx := C.1
  have hb := C.2.1
  have hts := C.2.2.2.2.1
  have hA : ∀ q, s.heap.size ≤ q → qAr ad s.heap.size q := fun _ h => Or.inr h
  have hi5 : ∀ w ∈ u_ws RX5 TX5 13, w ∈ wsX5_clear := by decide +kernel
  have hL0 := hts (.fieldLink RX5 30 "CrowFences$Plan" "cells" "I") (by decide +kernel)
  have hL1 := hts (.fieldLink RX5 34 "CrowFences$Plan" "road" "I") (by decide +kernel)
  have hL2 := hts (.fieldLink RX5 37 "CrowFences$Plan" "posts" "I") (by decide +kernel)
  have hL3 := hts (.fieldLink RX5 40 "CrowFences$Plan" "crows" "I") (by decide +kernel)
  have hL4 := hts (.fieldLink RX5 43 "CrowFences$Plan" "winds" "I") (by decide +kernel)
  have hl := lv_entry ([.ref (ad p)]) (n := 1) (Nat.le_of_ble_eq_true rfl)
  rw [lg_entry_eq]
  generalize (lg_sl ([.ref (ad p)]) ++ List.replicate (1 - (lg_sl ([.ref (ad p)])).length) Slot.unset).toArray = ls at hl ⊢
  have hl : lv_has ls 1 [(0, .ref (ad p))] := hl
  refine lv_aload_n hx hb dX5_clear_0 rfl (lv_at hl 0 rfl) ?_
  refine lv_iconst (v := 0) hx hb dX5_clear_1 (by decide) ?_
  refine q_put (o := p) (ci := 5) (k := 0) (T := TX5) (ty := .int) (v := 0) C hM (qmem_5 E ad S A b kp) (by omega) rfl hi5 tyX5 tyX5_ok nmX5 (by decide) hL0 rfl rfl (by decide +kernel) rfl rfl (Nat.le_of_ble_eq_true rfl) (qs_5_0 E ad S A b kp 0) dX5_clear_2 (fun H locs hM => ?_)
  obtain ⟨S_1, eS_1⟩ : ∃ zz, zz = q2 S p 0 0 := ⟨_, rfl⟩
  rw [← eS_1] at hM
  refine lv_aload_n hx hb dX5_clear_5 rfl (lv_at hl 0 rfl) ?_
  refine lv_iconst (v := 0) hx hb dX5_clear_6 (by decide) ?_
  refine q_put (o := p) (ci := 5) (k := 3) (T := TX5) (ty := .int) (v := 0) C hM (qmem_5 E ad S_1 A b kp) (by omega) rfl hi5 tyX5 tyX5_ok nmX5 (by decide) hL1 rfl rfl (by decide +kernel) rfl rfl (Nat.le_of_ble_eq_true rfl) (qs_5_3 E ad S_1 A b kp 0) dX5_clear_7 (fun H locs hM => ?_)
  obtain ⟨S_2, eS_2⟩ : ∃ zz, zz = q2 S_1 p 3 0 := ⟨_, rfl⟩
  rw [← eS_2] at hM
  refine lv_aload_n hx hb dX5_clear_10 rfl (lv_at hl 0 rfl) ?_
  refine lv_iconst (v := 0) hx hb dX5_clear_11 (by decide) ?_
  refine q_put (o := p) (ci := 5) (k := 4) (T := TX5) (ty := .int) (v := 0) C hM (qmem_5 E ad S_2 A b kp) (by omega) rfl hi5 tyX5 tyX5_ok nmX5 (by decide) hL2 rfl rfl (by decide +kernel) rfl rfl (Nat.le_of_ble_eq_true rfl) (qs_5_4 E ad S_2 A b kp 0) dX5_clear_12 (fun H locs hM => ?_)
  obtain ⟨S_3, eS_3⟩ : ∃ zz, zz = q2 S_2 p 4 0 := ⟨_, rfl⟩
  rw [← eS_3] at hM
  refine lv_aload_n hx hb dX5_clear_15 rfl (lv_at hl 0 rfl) ?_
  refine lv_iconst (v := 0) hx hb dX5_clear_16 (by decide) ?_
  refine q_put (o := p) (ci := 5) (k := 5) (T := TX5) (ty := .int) (v := 0) C hM (qmem_5 E ad S_3 A b kp) (by omega) rfl hi5 tyX5 tyX5_ok nmX5 (by decide) hL3 rfl rfl (by decide +kernel) rfl rfl (Nat.le_of_ble_eq_true rfl) (qs_5_5 E ad S_3 A b kp 0) dX5_clear_17 (fun H locs hM => ?_)
  obtain ⟨S_4, eS_4⟩ : ∃ zz, zz = q2 S_3 p 5 0 := ⟨_, rfl⟩
  rw [← eS_4] at hM
  refine lv_aload_n hx hb dX5_clear_20 rfl (lv_at hl 0 rfl) ?_
  refine lv_iconst (v := 0) hx hb dX5_clear_21 (by decide) ?_
  refine q_put (o := p) (ci := 5) (k := 6) (T := TX5) (ty := .int) (v := 0) C hM (qmem_5 E ad S_4 A b kp) (by omega) rfl hi5 tyX5 tyX5_ok nmX5 (by decide) hL4 rfl rfl (by decide +kernel) rfl rfl (Nat.le_of_ble_eq_true rfl) (qs_5_6 E ad S_4 A b kp 0) dX5_clear_22 (fun H locs hM => ?_)
  obtain ⟨S_5, eS_5⟩ : ∃ zz, zz = q2 S_4 p 6 0 := ⟨_, rfl⟩
  rw [← eS_5] at hM
  exact q_vret C hM dX5_clear_25 (by subst_vars; exact ⟨rfl, rfl, rfl⟩)

set_option maxHeartbeats 4000000 in
set_option maxRecDepth 100000 in
theorem c_X9_openRoad (E : qE) (ad : Nat → Nat) (l : Launch) (S A : qA2) (b : qB) (w : Nat) (hw : qw w) (p : Nat) (hp : qpl p) (nC : Nat) (hC : S p 0 = nI nC) (hCb : nC ≤ 12) : MI E ad l yX9_openRoad wsX9_openRoad { frames := 1, cells := 0, slots := 0, locals := 21 } [.ref (ad w), .ref (ad p)] S A b (fun r S' A' b' => (S = S' ∧ A = A' ∧ b = b') ∧ r = qopen (S p 3) (S p 2) (A (w + 1)) nC) := by
  obtain ⟨⟨kw, kw1, kw2, kw3, kw4, kw5⟩, ⟨lw1, lw2, lw3, lw4, lw5⟩, bw, bw6⟩ := qw_all hw
  obtain ⟨⟨kp, kp1, kp2, kp3, kp4, kp5, kp6⟩, ⟨lp1, lp2, lp3, lp4, lp5, lp6⟩, bp, bp7⟩ := qpl_all hp
  refine MI.of (cc := cX9_openRoad) (maxL := 4) (ret := some .int) RX9 rfl (by decide) rfl ?_
  intro pg e s m below meth cd C hM
  have hx := C.1
  have hb := C.2.1
  have hts := C.2.2.2.2.1
  have hA : ∀ q, s.heap.size ≤ q → qAr ad s.heap.size q := fun _ h => Or.inr h
  have hi5 : ∀ w ∈ u_ws RX5 TX5 13, w ∈ wsX9_openRoad := by decide +kernel
  have hi9 : ∀ w ∈ u_ws RX9 TX9 8, w ∈ wsX9_openRoad := by decide +kernel
  have hL0 := hts (.fieldLink RX9 64 "CrowFences$Plan" "cells" "I") (by decide +kernel)
  have hL1 := hts (.fieldLink RX9 9 "CrowFences$Winter" "snow" "[I") (by decide +kernel)
  have hL2 := hts (.fieldLink RX9 74 "CrowFences$Plan" "deepestOpen" "I") (by decide +kernel)
  have hl := lv_entry ([.ref (ad w), .ref (ad p)]) (n := 4) (Nat.le_of_ble_eq_true rfl)
  rw [lg_entry_eq]
  generalize (lg_sl ([.ref (ad w), .ref (ad p)]) ++ List.replicate (4 - (lg_sl ([.ref (ad w), .ref (ad p)])).length) Slot.unset).toArray = ls at hl ⊢
  have hl : lv_has ls 4 [(0, .ref (ad w)), (1, .ref (ad p))] := hl
  refine lv_iconst (v := 0) hx hb dX9_openRoad_0 (by decide) ?_
  refine lv_istore_n (lv' := [(2, .int 0), (0, .ref (ad w)), (1, .ref (ad p))]) hx hb dX9_openRoad_1 rfl hl (by decide) rfl (fun ls hl => ?_)
  refine lv_iconst (v := 0) hx hb dX9_openRoad_2 (by decide) ?_
  refine lv_istore_n (lv' := [(3, .int 0), (2, .int 0), (0, .ref (ad w)), (1, .ref (ad p))]) hx hb dX9_openRoad_3 rfl hl (by decide) rfl (fun ls hl => ?_)
  have loop4 : ∀ (fu : Nat) (t : Int32) (k : Nat) (hk : k ≤ nC) (ht : t = qopen (S p 3) (S p 2) (A (w + 1)) k), nC - k < fu → ∀ (H : Heap) (locs : List Loc) (ls : Array Slot), qM E ad S A b (qAr ad s.heap.size) s H locs → lv_has ls 4 [(3, .int (nI k)), (2, .int t), (0, .ref (ad w)), (1, .ref (ad p))] → W pg l e (headSpec wsX9_openRoad { frames := 1, cells := 0, slots := 0, locals := 21 }).room s m ([.ref (ad w), .ref (ad p)] : List Value).toArray below meth cd H locs 0 0 (MQ below (qQi E ad s.heap.size (fun r S' A' b' => (S = S' ∧ A = A' ∧ b = b') ∧ r = qopen (S p 3) (S p 2) (A (w + 1)) nC)) ([.ref (ad w), .ref (ad p)] : List Value).toArray s 0 0 (qAr ad s.heap.size)) (F0 m 4 ls []) := by
    intro fu
    induction fu with
    | zero => intro t k hk ht hn; exact absurd hn (Nat.not_lt_zero _)
    | succ fu ih4 =>
      intro t k hk ht hn H locs ls hM hl
      refine lv_iload_n hx hb dX9_openRoad_4 rfl (lv_at hl 0 rfl) ?_
      refine lv_aload_n hx hb dX9_openRoad_5 rfl (lv_at hl 3 rfl) ?_
      refine q_get (o := p) (ci := 5) (k := 0) (T := TX5) (v := .int (S p 0)) C hM (qmem_5 E ad S A b kp) (by omega) rfl hi5 (by decide) hL0 rfl rfl dX9_openRoad_6 ?_
      refine lv_as (y := nI nC) hC ?_
      refine lv_icmp_ge (tgt := 45) hx hb dX9_openRoad_9 (by decide) (fun c_9 => ?_) (fun c_9 => ?_)
      · skip
        have c_9 : nC ≤ k := (nI_leI (a := nC) (b := k) (by omega) (by omega)).mp c_9
        refine lv_iload_n hx hb dX9_openRoad_45 rfl (lv_at hl 1 rfl) ?_
        exact q_iret C hM dX9_openRoad_46 (by exact ⟨⟨rfl, rfl, rfl⟩, (by rw [ht, show k = nC by omega])⟩)
      · skip
        have c_9 : ¬ (nC ≤ k) := fun z => c_9 ((nI_leI (a := nC) (b := k) (by omega) (by omega)).mpr z)
        refine lv_aload_n hx hb dX9_openRoad_12 rfl (lv_at hl 3 rfl) ?_
        refine lv_iload_n hx hb dX9_openRoad_13 rfl (lv_at hl 0 rfl) ?_
        refine q_callVI (n := 1) (o := p) (As := [.int (nI k)]) (rest := []) C hM hA (c_X5_isRoad E ad l S A b p hp (nI k)) (qmem_5 E ad S A b kp) (by omega) rfl gX9_openRoad_X5_isRoad rfl rfl rfl (by decide +kernel) ⟨Nat.le_of_ble_eq_true rfl, Nat.le_of_ble_eq_true rfl⟩ rfl hl.1 rfl (Nat.le_of_ble_eq_true rfl) ⟨Nat.zero_le _, Nat.zero_le _⟩ dX9_openRoad_14 (fun r_1 S_2 A_3 b_4 H locs qr_1 hM => ?_)
        obtain ⟨⟨e1, e2, e3⟩, er_1⟩ := qr_1
        subst e1; subst e2; subst e3
        refine lv_if_eq (tgt := 39) hx hb dX9_openRoad_17 (by decide) (fun c_17 => ?_) (fun c_17 => ?_)
        · skip
          refine lv_iinc (v := nI (k + 1)) (lv' := [(3, .int (nI (k + 1))), (2, .int t), (0, .ref (ad w)), (1, .ref (ad p))]) hx hb dX9_openRoad_39 hl (k := 0) rfl (by rw [nI_succ]; rfl) (by decide) rfl (fun ls hl => ?_)
          refine lv_goto (tgt := 4) hx hb dX9_openRoad_42 (by decide) ?_
          exact ih4 t (k + 1) (by omega) (by rw [er_1, q01_eq0] at c_17; rw [ht]; simp only [qopen, qor]; rw [if_neg (fun z => c_17 z.1), i32_or0]) (by omega) _ _ _ hM hl
        · skip
          refine lv_aload_n hx hb dX9_openRoad_20 rfl (lv_at hl 2 rfl) ?_
          refine q_get (o := w) (ci := 9) (k := 0) (T := TX9) (v := .ref (ad (w + 1))) C hM (qmem_9 E ad S A b kw) (by omega) rfl hi9 (by decide) hL1 rfl rfl dX9_openRoad_21 ?_
          refine lv_iload_n hx hb dX9_openRoad_24 rfl (lv_at hl 0 rfl) ?_
          refine q_iald (v := A (w + 1) k) C hM kw1 (by rw [lw1]; exact vp_nI (by omega) (by omega)) (by rw [nIc (by omega)]) dX9_openRoad_25 ?_
          refine lv_aload_n hx hb dX9_openRoad_26 rfl (lv_at hl 3 rfl) ?_
          refine q_get (o := p) (ci := 5) (k := 2) (T := TX5) (v := .int (S p 2)) C hM (qmem_5 E ad S A b kp) (by omega) rfl hi5 (by decide) hL2 rfl rfl dX9_openRoad_27 ?_
          refine lv_icmp_gt (tgt := 39) hx hb dX9_openRoad_30 (by decide) (fun c_30 => ?_) (fun c_30 => ?_)
          · skip
            refine lv_iinc (v := nI (k + 1)) (lv' := [(3, .int (nI (k + 1))), (2, .int t), (0, .ref (ad w)), (1, .ref (ad p))]) hx hb dX9_openRoad_39 hl (k := 0) rfl (by rw [nI_succ]; rfl) (by decide) rfl (fun ls hl => ?_)
            refine lv_goto (tgt := 4) hx hb dX9_openRoad_42 (by decide) ?_
            exact ih4 t (k + 1) (by omega) (by rw [ht]; simp only [qopen, qor]; rw [if_neg (fun z => Int32.not_le.mpr c_30 z.2), i32_or0]) (by omega) _ _ _ hM hl
          · skip
            refine lv_iload_n hx hb dX9_openRoad_33 rfl (lv_at hl 1 rfl) ?_
            refine lv_iconst (v := 1) hx hb dX9_openRoad_34 (by decide) ?_
            refine lv_iload_n hx hb dX9_openRoad_35 rfl (lv_at hl 0 rfl) ?_
            refine lv_ishl hx hb dX9_openRoad_36 ?_
            refine lv_ior hx hb dX9_openRoad_37 ?_
            refine lv_topi (fun x2_5 ex2_5 => ?_)
            refine lv_istore_n (lv' := [(2, .int x2_5), (3, .int (nI k)), (0, .ref (ad w)), (1, .ref (ad p))]) hx hb dX9_openRoad_38 rfl hl (by decide) rfl (fun ls hl => ?_)
            refine lv_iinc (v := nI (k + 1)) (lv' := [(3, .int (nI (k + 1))), (2, .int x2_5), (0, .ref (ad w)), (1, .ref (ad p))]) hx hb dX9_openRoad_39 hl (k := 1) rfl (by rw [nI_succ]; rfl) (by decide) rfl (fun ls hl => ?_)
            refine lv_goto (tgt := 4) hx hb dX9_openRoad_42 (by decide) ?_
            exact ih4 x2_5 (k + 1) (by omega) (by rw [er_1, q01_eq0] at c_17; rw [ex2_5, ht]; simp only [qopen, qor]; rw [if_pos ⟨Classical.not_not.mp c_17, Int32.not_lt.mp c_30⟩]; rfl) (by omega) _ _ _ hM hl
  exact loop4 (nC - 0 + 1) 0 0 (by omega) rfl (Nat.lt_succ_self _) _ _ _ hM hl

set_option maxHeartbeats 4000000 in
set_option maxRecDepth 100000 in
theorem c_X9_roadIsOpen (E : qE) (ad : Nat → Nat) (l : Launch) (S A : qA2) (b : qB) (w : Nat) (hw : qw w) (p : Nat) (hp : qpl p) (nC : Nat) (hC : S p 0 = nI nC) (hCb : nC ≤ 12) : MI E ad l yX9_roadIsOpen wsX9_roadIsOpen { frames := 2, cells := 0, slots := 0, locals := 44 } [.ref (ad w), .ref (ad p)] S A b (fun r S' A' b' => (S = S' ∧ A = A' ∧ b = b') ∧ r = q01 (qopen (S p 3) (S p 2) (A (w + 1)) nC = S p 3)) := by
  obtain ⟨⟨kw, kw1, kw2, kw3, kw4, kw5⟩, ⟨lw1, lw2, lw3, lw4, lw5⟩, bw, bw6⟩ := qw_all hw
  obtain ⟨⟨kp, kp1, kp2, kp3, kp4, kp5, kp6⟩, ⟨lp1, lp2, lp3, lp4, lp5, lp6⟩, bp, bp7⟩ := qpl_all hp
  refine MI.of (cc := cX9_roadIsOpen) (maxL := 2) (ret := some .boolean) RX9 rfl (by decide) rfl ?_
  intro pg e s m below meth cd C hM
  have hx := C.1
  have hb := C.2.1
  have hts := C.2.2.2.2.1
  have hA : ∀ q, s.heap.size ≤ q → qAr ad s.heap.size q := fun _ h => Or.inr h
  have hi5 : ∀ w ∈ u_ws RX5 TX5 13, w ∈ wsX9_roadIsOpen := by decide +kernel
  have hL0 := hts (.fieldLink RX9 81 "CrowFences$Plan" "road" "I") (by decide +kernel)
  have hl := lv_entry ([.ref (ad w), .ref (ad p)]) (n := 2) (Nat.le_of_ble_eq_true rfl)
  rw [lg_entry_eq]
  generalize (lg_sl ([.ref (ad w), .ref (ad p)]) ++ List.replicate (2 - (lg_sl ([.ref (ad w), .ref (ad p)])).length) Slot.unset).toArray = ls at hl ⊢
  have hl : lv_has ls 2 [(0, .ref (ad w)), (1, .ref (ad p))] := hl
  refine lv_aload_n hx hb dX9_roadIsOpen_0 rfl (lv_at hl 0 rfl) ?_
  refine lv_aload_n hx hb dX9_roadIsOpen_1 rfl (lv_at hl 1 rfl) ?_
  refine q_callVI (n := 1) (o := w) (As := [.ref (ad p)]) (rest := []) C hM hA (c_X9_openRoad E ad l S A b w hw p hp nC hC (by omega)) (qmem_9 E ad S A b kw) (by omega) rfl gX9_roadIsOpen_X9_openRoad rfl rfl rfl (by decide +kernel) ⟨Nat.le_of_ble_eq_true rfl, Nat.le_of_ble_eq_true rfl⟩ rfl hl.1 rfl (Nat.le_of_ble_eq_true rfl) ⟨Nat.zero_le _, Nat.zero_le _⟩ dX9_roadIsOpen_2 (fun r_1 S_2 A_3 b_4 H locs qr_1 hM => ?_)
  obtain ⟨⟨e1, e2, e3⟩, er_1⟩ := qr_1
  subst e1; subst e2; subst e3
  refine lv_aload_n hx hb dX9_roadIsOpen_5 rfl (lv_at hl 1 rfl) ?_
  refine q_get (o := p) (ci := 5) (k := 3) (T := TX5) (v := .int (S p 3)) C hM (qmem_5 E ad S A b kp) (by omega) rfl hi5 (by decide) hL0 rfl rfl dX9_roadIsOpen_6 ?_
  refine lv_icmp_ne (tgt := 16) hx hb dX9_roadIsOpen_9 (by decide) (fun c_9 => ?_) (fun c_9 => ?_)
  · skip
    refine lv_iconst (v := 0) hx hb dX9_roadIsOpen_16 (by decide) ?_
    exact q_zret C hM dX9_roadIsOpen_17 rfl (by exact ⟨⟨rfl, rfl, rfl⟩, (by rw [er_1] at c_9; simp [q01, c_9])⟩)
  · skip
    refine lv_iconst (v := 1) hx hb dX9_roadIsOpen_12 (by decide) ?_
    refine lv_goto (tgt := 17) hx hb dX9_roadIsOpen_13 (by decide) ?_
    exact q_zret C hM dX9_roadIsOpen_17 rfl (by exact ⟨⟨rfl, rfl, rfl⟩, (by rw [er_1] at c_9; simp [q01, c_9])⟩)

set_option maxHeartbeats 4000000 in
set_option maxRecDepth 100000 in
theorem c_X9_melt (E : qE) (ad : Nat → Nat) (l : Launch) (S A : qA2) (b : qB) (w : Nat) (hw : qw w) (a1 : Int32) : MV E ad l yX9_melt wsX9_melt { frames := 1, cells := 0, slots := 0, locals := 15 } [.ref (ad w), .int a1] S A b (fun S' A' b' => S = S' ∧ b = b' ∧ A' (w + 1) = qmap (fun _ x => if 0 < x - a1 then x - a1 else 0) (A (w + 1)) 12 ∧ ∀ i, i ≠ w + 1 → A' i = A i) := by
  obtain ⟨⟨kw, kw1, kw2, kw3, kw4, kw5⟩, ⟨lw1, lw2, lw3, lw4, lw5⟩, bw, bw6⟩ := qw_all hw
  refine MV.of (cc := cX9_melt) (maxL := 3) (ret := none) RX9 rfl (by decide) rfl ?_
  intro pg e s m below meth cd C hM
  have hx := C.1
  have hb := C.2.1
  have hts := C.2.2.2.2.1
  have hA : ∀ q, s.heap.size ≤ q → qAr ad s.heap.size q := fun _ h => Or.inr h
  have hi9 : ∀ w ∈ u_ws RX9 TX9 8, w ∈ wsX9_melt := by decide +kernel
  have hL0 := hts (.fieldLink RX9 9 "CrowFences$Winter" "snow" "[I") (by decide +kernel)
  have hL1 := hts (.methodLink RX9 84 Lib.Math.max.name) (by decide +kernel)
  have hL2 := hts (.static Lib.Math.max.name) (by decide +kernel)
  have hL3 := hts (.initialized "java/lang/Math") (by decide +kernel)
  have hL4 := hts (.code Lib.Math.max.name Lib.Math.max.code 2 (some .int)) (by decide +kernel)
  have hl := lv_entry ([.ref (ad w), .int a1]) (n := 3) (Nat.le_of_ble_eq_true rfl)
  rw [lg_entry_eq]
  generalize (lg_sl ([.ref (ad w), .int a1]) ++ List.replicate (3 - (lg_sl ([.ref (ad w), .int a1])).length) Slot.unset).toArray = ls at hl ⊢
  have hl : lv_has ls 3 [(0, .ref (ad w)), (1, .int a1)] := hl
  refine lv_iconst (v := 0) hx hb dX9_melt_0 (by decide) ?_
  refine lv_istore_n (lv' := [(2, .int 0), (0, .ref (ad w)), (1, .int a1)]) hx hb dX9_melt_1 rfl hl (by decide) rfl (fun ls hl => ?_)
  have loop2 : ∀ (fu : Nat) (k : Nat) (A2 : qA2) (hk : k ≤ 12) (hr : A2 (w + 1) = qmap (fun _ x => if 0 < x - a1 then x - a1 else 0) (A (w + 1)) k) (hf : ∀ i, i ≠ w + 1 → A2 i = A i), 12 - k < fu → ∀ (H : Heap) (locs : List Loc) (ls : Array Slot), qM E ad S A2 b (qAr ad s.heap.size) s H locs → lv_has ls 3 [(2, .int (nI k)), (0, .ref (ad w)), (1, .int a1)] → W pg l e (headSpec wsX9_melt { frames := 1, cells := 0, slots := 0, locals := 15 }).room s m ([.ref (ad w), .int a1] : List Value).toArray below meth cd H locs 0 0 (MQ below (qQv E ad s.heap.size (fun S' A' b' => S = S' ∧ b = b' ∧ A' (w + 1) = qmap (fun _ x => if 0 < x - a1 then x - a1 else 0) (A (w + 1)) 12 ∧ ∀ i, i ≠ w + 1 → A' i = A i)) ([.ref (ad w), .int a1] : List Value).toArray s 0 0 (qAr ad s.heap.size)) (F0 m 2 ls []) := by
    intro fu
    induction fu with
    | zero => intro k A2 hk hr hf hn; exact absurd hn (Nat.not_lt_zero _)
    | succ fu ih2 =>
      intro k A2 hk hr hf hn H locs ls hM hl
      refine lv_iload_n hx hb dX9_melt_2 rfl (lv_at hl 0 rfl) ?_
      refine lv_bipush (v := 12) hx hb dX9_melt_3 (by decide) ?_
      refine lv_icmp_ge (tgt := 32) hx hb dX9_melt_5 (by decide) (fun c_5 => ?_) (fun c_5 => ?_)
      · skip
        have c_5 : 12 ≤ k := (nI_leI (a := 12) (b := k) (by omega) (by omega)).mp c_5
        exact q_vret C hM dX9_melt_32 (by exact ⟨rfl, rfl, by rw [hr, show k = 12 by omega], hf⟩)
      · skip
        have c_5 : ¬ (12 ≤ k) := fun z => c_5 ((nI_leI (a := 12) (b := k) (by omega) (by omega)).mpr z)
        refine lv_aload_n hx hb dX9_melt_8 rfl (lv_at hl 1 rfl) ?_
        refine q_get (o := w) (ci := 9) (k := 0) (T := TX9) (v := .ref (ad (w + 1))) C hM (qmem_9 E ad S A2 b kw) (by omega) rfl hi9 (by decide) hL0 rfl rfl dX9_melt_9 ?_
        refine lv_iload_n hx hb dX9_melt_12 rfl (lv_at hl 0 rfl) ?_
        refine lv_iconst (v := 0) hx hb dX9_melt_13 (by decide) ?_
        refine lv_aload_n hx hb dX9_melt_14 rfl (lv_at hl 1 rfl) ?_
        refine q_get (o := w) (ci := 9) (k := 0) (T := TX9) (v := .ref (ad (w + 1))) C hM (qmem_9 E ad S A2 b kw) (by omega) rfl hi9 (by decide) hL0 rfl rfl dX9_melt_15 ?_
        refine lv_iload_n hx hb dX9_melt_18 rfl (lv_at hl 0 rfl) ?_
        refine q_iald (v := A2 (w + 1) k) C hM kw1 (by rw [lw1]; exact vp_nI (by omega) (by omega)) (by rw [nIc (by omega)]) dX9_melt_19 ?_
        refine lv_iload_n hx hb dX9_melt_20 rfl (lv_at hl 2 rfl) ?_
        refine lv_isub hx hb dX9_melt_21 ?_
        refine va_mmax hx hb (C.2.2.1.trans hl.1.symm) C.2.2.2.1 hL1 hL2 hL3 hL4 (Nat.le_of_ble_eq_true rfl) (Nat.le_of_ble_eq_true rfl) (Nat.zero_le _) (Nat.zero_le _) dX9_melt_22 ?_
        refine lv_topi (fun v_1 ev_1 => ?_)
        refine q_iast C hM kw1 (by rw [lw1]; exact vp_nI (by omega) (by omega)) dX9_melt_25 (fun H locs hM => ?_)
        rw [nIc (by omega)] at hM
        obtain ⟨A_2, eA_2⟩ : ∃ zz, zz = q2 A2 (w + 1) k v_1 := ⟨_, rfl⟩
        rw [← eA_2] at hM
        refine lv_iinc (v := nI (k + 1)) (lv' := [(2, .int (nI (k + 1))), (0, .ref (ad w)), (1, .int a1)]) hx hb dX9_melt_26 hl (k := 0) rfl (by rw [nI_succ]; rfl) (by decide) rfl (fun ls hl => ?_)
        refine lv_goto (tgt := 2) hx hb dX9_melt_29 (by decide) ?_
        exact ih2 (k + 1) A_2 (by omega) (by rw [eA_2, q2_row, hr]; exact qmap_s _ _ _ _ (by rw [ev_1, hr, qmap_at])) (by rw [eA_2]; exact qfr_up hf) (by omega) _ _ _ hM hl
  exact loop2 (12 - 0 + 1) 0 A (by omega) ((qmap_0 _ _).symm) (fun _ _ => rfl) (Nat.lt_succ_self _) _ _ _ hM hl

set_option maxHeartbeats 4000000 in
set_option maxRecDepth 100000 in
theorem c_X9_lease (E : qE) (ad : Nat → Nat) (l : Launch) (S A : qA2) (b : qB) (w : Nat) (hw : qw w) (np nc : Nat) (a3 : Int32) (hnp : np < 6) (hnc : nc < 5) : MV E ad l yX9_lease wsX9_lease { frames := 1, cells := 0, slots := 0, locals := 15 } [.ref (ad w), .int (nI np), .int (nI nc), .int a3] S A b (fun S' A' b' => S' = q2 (q2 S w 5 (S w 5 ||| qbit np)) w 7 (qmin6 (S w 7 + a3)) ∧ A' = q2 (q2 A (w + 3) np (nI nc)) (w + 5) nc (qmin6 (A (w + 5) nc + a3)) ∧ b = b') := by
  obtain ⟨⟨kw, kw1, kw2, kw3, kw4, kw5⟩, ⟨lw1, lw2, lw3, lw4, lw5⟩, bw, bw6⟩ := qw_all hw
  refine MV.of (cc := cX9_lease) (maxL := 4) (ret := none) RX9 rfl (by decide) rfl ?_
  intro pg e s m below meth cd C hM
  have hx := C.1
  have hb := C.2.1
  have hts := C.2.2.2.2.1
  have hA : ∀ q, s.heap.size ≤ q → qAr ad s.heap.size q := fun _ h => Or.inr h
  have hi9 : ∀ w ∈ u_ws RX9 TX9 8, w ∈ wsX9_lease := by decide +kernel
  have hL0 := hts (.fieldLink RX9 18 "CrowFences$Winter" "crowOn" "[I") (by decide +kernel)
  have hL1 := hts (.fieldLink RX9 35 "CrowFences$Winter" "standing" "I") (by decide +kernel)
  have hL2 := hts (.fieldLink RX9 24 "CrowFences$Winter" "paid" "[I") (by decide +kernel)
  have hL3 := hts (.constant RX9 57 (999999)) (by decide +kernel)
  have hL4 := hts (.methodLink RX9 58 Lib.Math.min.name) (by decide +kernel)
  have hL5 := hts (.static Lib.Math.min.name) (by decide +kernel)
  have hL6 := hts (.initialized "java/lang/Math") (by decide +kernel)
  have hL7 := hts (.code Lib.Math.min.name Lib.Math.min.code 2 (some .int)) (by decide +kernel)
  have hL8 := hts (.fieldLink RX9 42 "CrowFences$Winter" "spoons" "I") (by decide +kernel)
  have hl := lv_entry ([.ref (ad w), .int (nI np), .int (nI nc), .int a3]) (n := 4) (Nat.le_of_ble_eq_true rfl)
  rw [lg_entry_eq]
  generalize (lg_sl ([.ref (ad w), .int (nI np), .int (nI nc), .int a3]) ++ List.replicate (4 - (lg_sl ([.ref (ad w), .int (nI np), .int (nI nc), .int a3])).length) Slot.unset).toArray = ls at hl ⊢
  have hl : lv_has ls 4 [(0, .ref (ad w)), (1, .int (nI np)), (2, .int (nI nc)), (3, .int a3)] := hl
  refine lv_aload_n hx hb dX9_lease_0 rfl (lv_at hl 0 rfl) ?_
  refine q_get (o := w) (ci := 9) (k := 2) (T := TX9) (v := .ref (ad (w + 3))) C hM (qmem_9 E ad S A b kw) (by omega) rfl hi9 (by decide) hL0 rfl rfl dX9_lease_1 ?_
  refine lv_iload_n hx hb dX9_lease_4 rfl (lv_at hl 1 rfl) ?_
  refine lv_iload_n hx hb dX9_lease_5 rfl (lv_at hl 2 rfl) ?_
  refine q_iast C hM kw3 (by rw [lw3]; exact vp_nI (by omega) (by omega)) dX9_lease_6 (fun H locs hM => ?_)
  rw [nIc (by omega)] at hM
  obtain ⟨A_1, eA_1⟩ : ∃ zz, zz = q2 A (w + 3) np (nI nc) := ⟨_, rfl⟩
  rw [← eA_1] at hM
  refine lv_aload_n hx hb dX9_lease_7 rfl (lv_at hl 0 rfl) ?_
  refine lv_dup hx hb dX9_lease_8 rfl ?_
  refine q_get (o := w) (ci := 9) (k := 5) (T := TX9) (v := .int (S w 5)) C hM (qmem_9 E ad S A_1 b kw) (by omega) rfl hi9 (by decide) hL1 rfl rfl dX9_lease_9 ?_
  refine lv_iconst (v := 1) hx hb dX9_lease_12 (by decide) ?_
  refine lv_iload_n hx hb dX9_lease_13 rfl (lv_at hl 1 rfl) ?_
  refine lv_ishl hx hb dX9_lease_14 ?_
  refine lv_ior hx hb dX9_lease_15 ?_
  refine lv_topi (fun v_2 ev_2 => ?_)
  refine q_put (o := w) (ci := 9) (k := 5) (T := TX9) (ty := .int) (v := v_2) C hM (qmem_9 E ad S A_1 b kw) (by omega) rfl hi9 tyX9 tyX9_ok nmX9 (by decide) hL1 rfl rfl (by decide +kernel) rfl rfl (Nat.le_of_ble_eq_true rfl) (qs_9_5 E ad S A_1 b kw v_2) dX9_lease_16 (fun H locs hM => ?_)
  obtain ⟨S_3, eS_3⟩ : ∃ zz, zz = q2 S w 5 v_2 := ⟨_, rfl⟩
  rw [← eS_3] at hM
  refine lv_aload_n hx hb dX9_lease_19 rfl (lv_at hl 0 rfl) ?_
  refine q_get (o := w) (ci := 9) (k := 4) (T := TX9) (v := .ref (ad (w + 5))) C hM (qmem_9 E ad S_3 A_1 b kw) (by omega) rfl hi9 (by decide) hL2 rfl rfl dX9_lease_20 ?_
  refine lv_iload_n hx hb dX9_lease_23 rfl (lv_at hl 2 rfl) ?_
  refine lv_ldc (v := 999999) hx hb C.2.2.2.1 hL3 dX9_lease_24 ?_
  refine lv_aload_n hx hb dX9_lease_26 rfl (lv_at hl 0 rfl) ?_
  refine q_get (o := w) (ci := 9) (k := 4) (T := TX9) (v := .ref (ad (w + 5))) C hM (qmem_9 E ad S_3 A_1 b kw) (by omega) rfl hi9 (by decide) hL2 rfl rfl dX9_lease_27 ?_
  refine lv_iload_n hx hb dX9_lease_30 rfl (lv_at hl 2 rfl) ?_
  refine q_iald (v := A (w + 5) nc) C hM kw5 (by rw [lw5]; exact vp_nI (by omega) (by omega)) (by rw [nIc (by omega)]; exact (show A_1 (w + 5) nc = A (w + 5) nc from by rw [eA_1, q2_o _ _ (by omega)])) dX9_lease_31 ?_
  refine lv_iload_n hx hb dX9_lease_32 rfl (lv_at hl 3 rfl) ?_
  refine lv_iadd hx hb dX9_lease_33 ?_
  refine va_mmin hx hb (C.2.2.1.trans hl.1.symm) C.2.2.2.1 hL4 hL5 hL6 hL7 (Nat.le_of_ble_eq_true rfl) (Nat.le_of_ble_eq_true rfl) (Nat.zero_le _) (Nat.zero_le _) dX9_lease_34 ?_
  refine lv_topi (fun v_4 ev_4 => ?_)
  refine q_iast C hM kw5 (by rw [lw5]; exact vp_nI (by omega) (by omega)) dX9_lease_37 (fun H locs hM => ?_)
  rw [nIc (by omega)] at hM
  obtain ⟨A_5, eA_5⟩ : ∃ zz, zz = q2 A_1 (w + 5) nc v_4 := ⟨_, rfl⟩
  rw [← eA_5] at hM
  refine lv_aload_n hx hb dX9_lease_38 rfl (lv_at hl 0 rfl) ?_
  refine lv_ldc (v := 999999) hx hb C.2.2.2.1 hL3 dX9_lease_39 ?_
  refine lv_aload_n hx hb dX9_lease_41 rfl (lv_at hl 0 rfl) ?_
  refine q_get (o := w) (ci := 9) (k := 7) (T := TX9) (v := .int (S w 7)) C hM (qmem_9 E ad S_3 A_5 b kw) (by omega) rfl hi9 (by decide) hL8 rfl (congrArg (fun z => some (Value.int z)) (show S_3 w 7 = S w 7 from by rw [eS_3, q2_k _ _ (by omega)])) dX9_lease_42 ?_
  refine lv_iload_n hx hb dX9_lease_45 rfl (lv_at hl 3 rfl) ?_
  refine lv_iadd hx hb dX9_lease_46 ?_
  refine va_mmin hx hb (C.2.2.1.trans hl.1.symm) C.2.2.2.1 hL4 hL5 hL6 hL7 (Nat.le_of_ble_eq_true rfl) (Nat.le_of_ble_eq_true rfl) (Nat.zero_le _) (Nat.zero_le _) dX9_lease_47 ?_
  refine lv_topi (fun v_6 ev_6 => ?_)
  refine q_put (o := w) (ci := 9) (k := 7) (T := TX9) (ty := .int) (v := v_6) C hM (qmem_9 E ad S_3 A_5 b kw) (by omega) rfl hi9 tyX9 tyX9_ok nmX9 (by decide) hL8 rfl rfl (by decide +kernel) rfl rfl (Nat.le_of_ble_eq_true rfl) (qs_9_7 E ad S_3 A_5 b kw v_6) dX9_lease_50 (fun H locs hM => ?_)
  obtain ⟨S_7, eS_7⟩ : ∃ zz, zz = q2 S_3 w 7 v_6 := ⟨_, rfl⟩
  rw [← eS_7] at hM
  exact q_vret C hM dX9_lease_53 (by subst_vars; exact ⟨rfl, rfl, rfl⟩)

set_option maxHeartbeats 4000000 in
set_option maxRecDepth 100000 in
theorem c_X9_freeCellBeside (E : qE) (ad : Nat → Nat) (l : Launch) (S A : qA2) (b : qB) (w : Nat) (hw : qw w) (p : Nat) (hp : qpl p) (np : Nat) (hnp : np < 6) (a3 : Int32) (nC : Nat) (hC : S p 0 = nI nC) (hCb : nC ≤ 12) (nP : Nat) (hPo : S p 4 = nI nP) (hPb : nP ≤ 6) : MI E ad l yX9_freeCellBeside wsX9_freeCellBeside { frames := 0, cells := 0, slots := 0, locals := 0 } [.ref (ad w), .ref (ad p), .int (nI np), .int a3] S A b (fun r S' A' b' => (S = S' ∧ A = A' ∧ b = b') ∧ r = qfree (A (w + 2)) nC nP (A (w + 2) np + (if a3 = 0 then -1 else 1))) := by
  obtain ⟨⟨kw, kw1, kw2, kw3, kw4, kw5⟩, ⟨lw1, lw2, lw3, lw4, lw5⟩, bw, bw6⟩ := qw_all hw
  obtain ⟨⟨kp, kp1, kp2, kp3, kp4, kp5, kp6⟩, ⟨lp1, lp2, lp3, lp4, lp5, lp6⟩, bp, bp7⟩ := qpl_all hp
  refine MI.of (cc := cX9_freeCellBeside) (maxL := 6) (ret := some .int) RX9 rfl (by decide) rfl ?_
  intro pg e s m below meth cd C hM
  have hx := C.1
  have hb := C.2.1
  have hts := C.2.2.2.2.1
  have hA : ∀ q, s.heap.size ≤ q → qAr ad s.heap.size q := fun _ h => Or.inr h
  have hi5 : ∀ w ∈ u_ws RX5 TX5 13, w ∈ wsX9_freeCellBeside := by decide +kernel
  have hi9 : ∀ w ∈ u_ws RX9 TX9 8, w ∈ wsX9_freeCellBeside := by decide +kernel
  have hL0 := hts (.fieldLink RX9 64 "CrowFences$Plan" "cells" "I") (by decide +kernel)
  have hL1 := hts (.fieldLink RX9 67 "CrowFences$Plan" "posts" "I") (by decide +kernel)
  have hL2 := hts (.fieldLink RX9 15 "CrowFences$Winter" "cellOf" "[I") (by decide +kernel)
  have hl := lv_entry ([.ref (ad w), .ref (ad p), .int (nI np), .int a3]) (n := 6) (Nat.le_of_ble_eq_true rfl)
  rw [lg_entry_eq]
  generalize (lg_sl ([.ref (ad w), .ref (ad p), .int (nI np), .int a3]) ++ List.replicate (6 - (lg_sl ([.ref (ad w), .ref (ad p), .int (nI np), .int a3])).length) Slot.unset).toArray = ls at hl ⊢
  have hl : lv_has ls 6 [(0, .ref (ad w)), (1, .ref (ad p)), (2, .int (nI np)), (3, .int a3)] := hl
  have join18 : ∀ (z4 : Int32) (hz4 : z4 = A (w + 2) np + (if a3 = 0 then -1 else 1)) (H : Heap) (locs : List Loc) (ls : Array Slot), qM E ad S A b (qAr ad s.heap.size) s H locs → lv_has ls 6 [(4, .int z4), (0, .ref (ad w)), (1, .ref (ad p)), (2, .int (nI np)), (3, .int a3)] → W pg l e (headSpec wsX9_freeCellBeside { frames := 0, cells := 0, slots := 0, locals := 0 }).room s m ([.ref (ad w), .ref (ad p), .int (nI np), .int a3] : List Value).toArray below meth cd H locs 0 0 (MQ below (qQi E ad s.heap.size (fun r S' A' b' => (S = S' ∧ A = A' ∧ b = b') ∧ r = qfree (A (w + 2)) nC nP (A (w + 2) np + (if a3 = 0 then -1 else 1)))) ([.ref (ad w), .ref (ad p), .int (nI np), .int a3] : List Value).toArray s 0 0 (qAr ad s.heap.size)) (F0 m 18 ls []) := by
    intro z4 hz4 H locs ls hM hl
    refine lv_iload hx hb dX9_freeCellBeside_18 (lv_at hl 0 rfl) ?_
    refine lv_if_lt (tgt := 32) hx hb dX9_freeCellBeside_20 (by decide) (fun c_20 => ?_) (fun c_20 => ?_)
    · skip
      refine lv_iconst (v := (-1)) hx hb dX9_freeCellBeside_32 (by decide) ?_
      exact q_iret C hM dX9_freeCellBeside_33 (by exact ⟨⟨rfl, rfl, rfl⟩, (by rw [← hz4]; unfold qfree; first | rw [if_pos (Or.inl c_20)] | rw [if_pos (Or.inr (Int32.not_lt.mp c_29))])⟩)
    · skip
      refine lv_iload hx hb dX9_freeCellBeside_23 (lv_at hl 0 rfl) ?_
      refine lv_aload_n hx hb dX9_freeCellBeside_25 rfl (lv_at hl 2 rfl) ?_
      refine q_get (o := p) (ci := 5) (k := 0) (T := TX5) (v := .int (S p 0)) C hM (qmem_5 E ad S A b kp) (by omega) rfl hi5 (by decide) hL0 rfl rfl dX9_freeCellBeside_26 ?_
      refine lv_as (y := nI nC) hC ?_
      refine lv_icmp_lt (tgt := 34) hx hb dX9_freeCellBeside_29 (by decide) (fun c_29 => ?_) (fun c_29 => ?_)
      · skip
        refine lv_iconst (v := 0) hx hb dX9_freeCellBeside_34 (by decide) ?_
        refine lv_istore (lv' := [(5, .int 0), (4, .int z4), (0, .ref (ad w)), (1, .ref (ad p)), (2, .int (nI np)), (3, .int a3)]) hx hb dX9_freeCellBeside_35 hl (by decide) rfl (fun ls hl => ?_)
        have loop37 : ∀ (fu : Nat) (k : Nat) (hk : k ≤ nP) (hv : qfind (A (w + 2)) z4 0 nP = qfind (A (w + 2)) z4 k (nP - k)), nP - k < fu → ∀ (H : Heap) (locs : List Loc) (ls : Array Slot), qM E ad S A b (qAr ad s.heap.size) s H locs → lv_has ls 6 [(5, .int (nI k)), (4, .int z4), (0, .ref (ad w)), (1, .ref (ad p)), (2, .int (nI np)), (3, .int a3)] → W pg l e (headSpec wsX9_freeCellBeside { frames := 0, cells := 0, slots := 0, locals := 0 }).room s m ([.ref (ad w), .ref (ad p), .int (nI np), .int a3] : List Value).toArray below meth cd H locs 0 0 (MQ below (qQi E ad s.heap.size (fun r S' A' b' => (S = S' ∧ A = A' ∧ b = b') ∧ r = qfree (A (w + 2)) nC nP (A (w + 2) np + (if a3 = 0 then -1 else 1)))) ([.ref (ad w), .ref (ad p), .int (nI np), .int a3] : List Value).toArray s 0 0 (qAr ad s.heap.size)) (F0 m 37 ls []) := by
          intro fu
          induction fu with
          | zero => intro k hk hv hn; exact absurd hn (Nat.not_lt_zero _)
          | succ fu ih37 =>
            intro k hk hv hn H locs ls hM hl
            refine lv_iload hx hb dX9_freeCellBeside_37 (lv_at hl 0 rfl) ?_
            refine lv_aload_n hx hb dX9_freeCellBeside_39 rfl (lv_at hl 3 rfl) ?_
            refine q_get (o := p) (ci := 5) (k := 4) (T := TX5) (v := .int (S p 4)) C hM (qmem_5 E ad S A b kp) (by omega) rfl hi5 (by decide) hL1 rfl rfl dX9_freeCellBeside_40 ?_
            refine lv_as (y := nI nP) hPo ?_
            refine lv_icmp_ge (tgt := 66) hx hb dX9_freeCellBeside_43 (by decide) (fun c_43 => ?_) (fun c_43 => ?_)
            · skip
              have c_43 : nP ≤ k := (nI_leI (a := nP) (b := k) (by omega) (by omega)).mp c_43
              refine lv_iload hx hb dX9_freeCellBeside_66 (lv_at hl 1 rfl) ?_
              exact q_iret C hM dX9_freeCellBeside_68 (by exact ⟨⟨rfl, rfl, rfl⟩, (by have hq : qfind (A (w + 2)) z4 0 nP = -1 := (by rw [hv, show nP - k = 0 by omega]; rfl); rw [← hz4]; unfold qfree; rw [if_neg (fun z => z.elim c_20 (fun q => Int32.not_lt.mpr q c_29))]; exact (if_pos hq).symm)⟩)
            · skip
              have c_43 : ¬ (nP ≤ k) := fun z => c_43 ((nI_leI (a := nP) (b := k) (by omega) (by omega)).mpr z)
              refine lv_aload_n hx hb dX9_freeCellBeside_46 rfl (lv_at hl 2 rfl) ?_
              refine q_get (o := w) (ci := 9) (k := 1) (T := TX9) (v := .ref (ad (w + 2))) C hM (qmem_9 E ad S A b kw) (by omega) rfl hi9 (by decide) hL2 rfl rfl dX9_freeCellBeside_47 ?_
              refine lv_iload hx hb dX9_freeCellBeside_50 (lv_at hl 0 rfl) ?_
              refine q_iald (v := A (w + 2) k) C hM kw2 (by rw [lw2]; exact vp_nI (by omega) (by omega)) (by rw [nIc (by omega)]) dX9_freeCellBeside_52 ?_
              refine lv_iload hx hb dX9_freeCellBeside_53 (lv_at hl 1 rfl) ?_
              refine lv_icmp_ne (tgt := 60) hx hb dX9_freeCellBeside_55 (by decide) (fun c_55 => ?_) (fun c_55 => ?_)
              · skip
                refine lv_iinc (v := nI (k + 1)) (lv' := [(5, .int (nI (k + 1))), (4, .int z4), (0, .ref (ad w)), (1, .ref (ad p)), (2, .int (nI np)), (3, .int a3)]) hx hb dX9_freeCellBeside_60 hl (k := 0) rfl (by rw [nI_succ]; rfl) (by decide) rfl (fun ls hl => ?_)
                refine lv_goto (tgt := 37) hx hb dX9_freeCellBeside_63 (by decide) ?_
                exact ih37 (k + 1) (by omega) (by rw [hv, show nP - k = (nP - (k + 1)) + 1 by omega]; exact if_neg c_55) (by omega) _ _ _ hM hl
              · skip
                refine lv_iconst (v := (-1)) hx hb dX9_freeCellBeside_58 (by decide) ?_
                exact q_iret C hM dX9_freeCellBeside_59 (by exact ⟨⟨rfl, rfl, rfl⟩, (by have hq : qfind (A (w + 2)) z4 0 nP = nI k := (by rw [hv, show nP - k = (nP - (k + 1)) + 1 by omega]; exact if_pos c_55); rw [← hz4]; unfold qfree; rw [if_neg (fun z => z.elim c_20 (fun q => Int32.not_lt.mpr q c_29))]; exact (if_neg (fun z => nI_nm1 (show k < 1000 by omega) (hq.symm.trans z))).symm)⟩)
        exact loop37 (nP - 0 + 1) 0 (by omega) rfl (Nat.lt_succ_self _) _ _ _ hM hl
      · skip
        refine lv_iconst (v := (-1)) hx hb dX9_freeCellBeside_32 (by decide) ?_
        exact q_iret C hM dX9_freeCellBeside_33 (by exact ⟨⟨rfl, rfl, rfl⟩, (by rw [← hz4]; unfold qfree; first | rw [if_pos (Or.inl c_20)] | rw [if_pos (Or.inr (Int32.not_lt.mp c_29))])⟩)
  refine lv_aload_n hx hb dX9_freeCellBeside_0 rfl (lv_at hl 0 rfl) ?_
  refine q_get (o := w) (ci := 9) (k := 1) (T := TX9) (v := .ref (ad (w + 2))) C hM (qmem_9 E ad S A b kw) (by omega) rfl hi9 (by decide) hL2 rfl rfl dX9_freeCellBeside_1 ?_
  refine lv_iload_n hx hb dX9_freeCellBeside_4 rfl (lv_at hl 2 rfl) ?_
  refine q_iald (v := A (w + 2) np) C hM kw2 (by rw [lw2]; exact vp_nI (by omega) (by omega)) (by rw [nIc (by omega)]) dX9_freeCellBeside_5 ?_
  refine lv_iload_n hx hb dX9_freeCellBeside_6 rfl (lv_at hl 3 rfl) ?_
  refine lv_if_eq (tgt := 14) hx hb dX9_freeCellBeside_7 (by decide) (fun c_7 => ?_) (fun c_7 => ?_)
  · skip
    refine lv_iconst (v := (-1)) hx hb dX9_freeCellBeside_14 (by decide) ?_
    refine lv_iadd hx hb dX9_freeCellBeside_15 ?_
    refine lv_topi (fun x4_1 ex4_1 => ?_)
    refine lv_istore (lv' := [(4, .int x4_1), (0, .ref (ad w)), (1, .ref (ad p)), (2, .int (nI np)), (3, .int a3)]) hx hb dX9_freeCellBeside_16 hl (by decide) rfl (fun ls hl => ?_)
    exact join18 x4_1 (by rw [ex4_1]; simp [c_7]) _ _ _ hM hl
  · skip
    refine lv_iconst (v := 1) hx hb dX9_freeCellBeside_10 (by decide) ?_
    refine lv_goto (tgt := 15) hx hb dX9_freeCellBeside_11 (by decide) ?_
    refine lv_iadd hx hb dX9_freeCellBeside_15 ?_
    refine lv_topi (fun x4_2 ex4_2 => ?_)
    refine lv_istore (lv' := [(4, .int x4_2), (0, .ref (ad w)), (1, .ref (ad p)), (2, .int (nI np)), (3, .int a3)]) hx hb dX9_freeCellBeside_16 hl (by decide) rfl (fun ls hl => ?_)
    exact join18 x4_2 (by rw [ex4_2]; simp [c_7]) _ _ _ hM hl

set_option maxHeartbeats 4000000 in
set_option maxRecDepth 100000 in
theorem c_X9_begin (E : qE) (ad : Nat → Nat) (l : Launch) (S A : qA2) (b : qB) (w : Nat) (hw : qw w) (p : Nat) (hp : qpl p) (nP : Nat) (hPo : S p 4 = nI nP) (hPb : nP ≤ 6) : MV E ad l yX9_begin wsX9_begin { frames := 1, cells := 0, slots := 0, locals := 20 } [.ref (ad w), .ref (ad p)] S A b (fun S' A' b' => b = b' ∧ (A' (w + 1) = qmap (fun _ _ => 0) (A (w + 1)) 12 ∧ A' (w + 2) = qmap (fun a _ => A (p + 1) a) (A (w + 2)) 6 ∧ A' (w + 3) = qmap (fun _ _ => -1) (A (w + 3)) 6 ∧ A' (w + 4) = qmap (fun a _ => A (p + 3) a) (A (w + 4)) 5 ∧ A' (w + 5) = qmap (fun _ _ => 0) (A (w + 5)) 5) ∧ (∀ i, (i ≤ w ∨ w + 5 < i) → A' i = A i) ∧ S' = q2 (q2 (q2 S w 5 (qall nP)) w 6 0) w 7 0) := by
  obtain ⟨⟨kw, kw1, kw2, kw3, kw4, kw5⟩, ⟨lw1, lw2, lw3, lw4, lw5⟩, bw, bw6⟩ := qw_all hw
  obtain ⟨⟨kp, kp1, kp2, kp3, kp4, kp5, kp6⟩, ⟨lp1, lp2, lp3, lp4, lp5, lp6⟩, bp, bp7⟩ := qpl_all hp
  refine MV.of (cc := cX9_begin) (maxL := 3) (ret := none) RX9 rfl (by decide) rfl ?_
  intro pg e s m below meth cd C hM
  have hx := C.1
  have hb := C.2.1
  have hts := C.2.2.2.2.1
  have hA : ∀ q, s.heap.size ≤ q → qAr ad s.heap.size q := fun _ h => Or.inr h
  have hi5 : ∀ w ∈ u_ws RX5 TX5 13, w ∈ wsX9_begin := by decide +kernel
  have hi9 : ∀ w ∈ u_ws RX9 TX9 8, w ∈ wsX9_begin := by decide +kernel
  have hL0 := hts (.fieldLink RX9 35 "CrowFences$Winter" "standing" "I") (by decide +kernel)
  have hL1 := hts (.fieldLink RX9 39 "CrowFences$Winter" "hours" "I") (by decide +kernel)
  have hL2 := hts (.fieldLink RX9 42 "CrowFences$Winter" "spoons" "I") (by decide +kernel)
  have hL3 := hts (.fieldLink RX9 21 "CrowFences$Winter" "bid" "[I") (by decide +kernel)
  have hL4 := hts (.fieldLink RX9 30 "CrowFences$Plan" "bid" "[I") (by decide +kernel)
  have hL5 := hts (.fieldLink RX9 24 "CrowFences$Winter" "paid" "[I") (by decide +kernel)
  have hL6 := hts (.fieldLink RX9 15 "CrowFences$Winter" "cellOf" "[I") (by decide +kernel)
  have hL7 := hts (.fieldLink RX9 27 "CrowFences$Plan" "cellOf" "[I") (by decide +kernel)
  have hL8 := hts (.fieldLink RX9 18 "CrowFences$Winter" "crowOn" "[I") (by decide +kernel)
  have hL9 := hts (.fieldLink RX9 9 "CrowFences$Winter" "snow" "[I") (by decide +kernel)
  have hl := lv_entry ([.ref (ad w), .ref (ad p)]) (n := 3) (Nat.le_of_ble_eq_true rfl)
  rw [lg_entry_eq]
  generalize (lg_sl ([.ref (ad w), .ref (ad p)]) ++ List.replicate (3 - (lg_sl ([.ref (ad w), .ref (ad p)])).length) Slot.unset).toArray = ls at hl ⊢
  have hl : lv_has ls 3 [(0, .ref (ad w)), (1, .ref (ad p))] := hl
  refine lv_iconst (v := 0) hx hb dX9_begin_0 (by decide) ?_
  refine lv_istore_n (lv' := [(2, .int 0), (0, .ref (ad w)), (1, .ref (ad p))]) hx hb dX9_begin_1 rfl hl (by decide) rfl (fun ls hl => ?_)
  have loop2 : ∀ (fu : Nat) (k : Nat) (A2 : qA2) (hk : k ≤ 12) (hr1 : A2 (w + 1) = qmap (fun _ _ => 0) (A (w + 1)) k) (hr2 : A2 (w + 2) = qmap (fun a _ => A (p + 1) a) (A (w + 2)) 0) (hr3 : A2 (w + 3) = qmap (fun _ _ => -1) (A (w + 3)) 0) (hr4 : A2 (w + 4) = qmap (fun a _ => A (p + 3) a) (A (w + 4)) 0) (hr5 : A2 (w + 5) = qmap (fun _ _ => 0) (A (w + 5)) 0) (hf : ∀ i, (i ≤ w ∨ w + 5 < i) → A2 i = A i), 12 - k < fu → ∀ (H : Heap) (locs : List Loc) (ls : Array Slot), qM E ad S A2 b (qAr ad s.heap.size) s H locs → lv_has ls 3 [(2, .int (nI k)), (0, .ref (ad w)), (1, .ref (ad p))] → W pg l e (headSpec wsX9_begin { frames := 1, cells := 0, slots := 0, locals := 20 }).room s m ([.ref (ad w), .ref (ad p)] : List Value).toArray below meth cd H locs 0 0 (MQ below (qQv E ad s.heap.size (fun S' A' b' => b = b' ∧ (A' (w + 1) = qmap (fun _ _ => 0) (A (w + 1)) 12 ∧ A' (w + 2) = qmap (fun a _ => A (p + 1) a) (A (w + 2)) 6 ∧ A' (w + 3) = qmap (fun _ _ => -1) (A (w + 3)) 6 ∧ A' (w + 4) = qmap (fun a _ => A (p + 3) a) (A (w + 4)) 5 ∧ A' (w + 5) = qmap (fun _ _ => 0) (A (w + 5)) 5) ∧ (∀ i, (i ≤ w ∨ w + 5 < i) → A' i = A i) ∧ S' = q2 (q2 (q2 S w 5 (qall nP)) w 6 0) w 7 0)) ([.ref (ad w), .ref (ad p)] : List Value).toArray s 0 0 (qAr ad s.heap.size)) (F0 m 2 ls []) := by
    intro fu
    induction fu with
    | zero => intro k A2 hk hr1 hr2 hr3 hr4 hr5 hf hn; exact absurd hn (Nat.not_lt_zero _)
    | succ fu ih2 =>
      intro k A2 hk hr1 hr2 hr3 hr4 hr5 hf hn H locs ls hM hl
      refine lv_iload_n hx hb dX9_begin_2 rfl (lv_at hl 0 rfl) ?_
      refine lv_bipush (v := 12) hx hb dX9_begin_3 (by decide) ?_
      refine lv_icmp_ge (tgt := 21) hx hb dX9_begin_5 (by decide) (fun c_5 => ?_) (fun c_5 => ?_)
      · skip
        have c_5 : 12 ≤ k := (nI_leI (a := 12) (b := k) (by omega) (by omega)).mp c_5
        refine lv_iconst (v := 0) hx hb dX9_begin_21 (by decide) ?_
        refine lv_istore_n (lv' := [(2, .int 0), (0, .ref (ad w)), (1, .ref (ad p))]) hx hb dX9_begin_22 rfl hl (by decide) rfl (fun ls hl => ?_)
        have loop23 : ∀ (fu : Nat) (k : Nat) (A23 : qA2) (hk : k ≤ 6) (hr1 : A23 (w + 1) = qmap (fun _ _ => 0) (A (w + 1)) 12) (hr2 : A23 (w + 2) = qmap (fun a _ => A (p + 1) a) (A (w + 2)) k) (hr3 : A23 (w + 3) = qmap (fun _ _ => -1) (A (w + 3)) k) (hr4 : A23 (w + 4) = qmap (fun a _ => A (p + 3) a) (A (w + 4)) 0) (hr5 : A23 (w + 5) = qmap (fun _ _ => 0) (A (w + 5)) 0) (hf : ∀ i, (i ≤ w ∨ w + 5 < i) → A23 i = A i), 6 - k < fu → ∀ (H : Heap) (locs : List Loc) (ls : Array Slot), qM E ad S A23 b (qAr ad s.heap.size) s H locs → lv_has ls 3 [(2, .int (nI k)), (0, .ref (ad w)), (1, .ref (ad p))] → W pg l e (headSpec wsX9_begin { frames := 1, cells := 0, slots := 0, locals := 20 }).room s m ([.ref (ad w), .ref (ad p)] : List Value).toArray below meth cd H locs 0 0 (MQ below (qQv E ad s.heap.size (fun S' A' b' => b = b' ∧ (A' (w + 1) = qmap (fun _ _ => 0) (A (w + 1)) 12 ∧ A' (w + 2) = qmap (fun a _ => A (p + 1) a) (A (w + 2)) 6 ∧ A' (w + 3) = qmap (fun _ _ => -1) (A (w + 3)) 6 ∧ A' (w + 4) = qmap (fun a _ => A (p + 3) a) (A (w + 4)) 5 ∧ A' (w + 5) = qmap (fun _ _ => 0) (A (w + 5)) 5) ∧ (∀ i, (i ≤ w ∨ w + 5 < i) → A' i = A i) ∧ S' = q2 (q2 (q2 S w 5 (qall nP)) w 6 0) w 7 0)) ([.ref (ad w), .ref (ad p)] : List Value).toArray s 0 0 (qAr ad s.heap.size)) (F0 m 23 ls []) := by
          intro fu
          induction fu with
          | zero => intro k A23 hk hr1 hr2 hr3 hr4 hr5 hf hn; exact absurd hn (Nat.not_lt_zero _)
          | succ fu ih23 =>
            intro k A23 hk hr1 hr2 hr3 hr4 hr5 hf hn H locs ls hM hl
            refine lv_iload_n hx hb dX9_begin_23 rfl (lv_at hl 0 rfl) ?_
            refine lv_bipush (v := 6) hx hb dX9_begin_24 (by decide) ?_
            refine lv_icmp_ge (tgt := 54) hx hb dX9_begin_26 (by decide) (fun c_26 => ?_) (fun c_26 => ?_)
            · skip
              have c_26 : 6 ≤ k := (nI_leI (a := 6) (b := k) (by omega) (by omega)).mp c_26
              refine lv_iconst (v := 0) hx hb dX9_begin_54 (by decide) ?_
              refine lv_istore_n (lv' := [(2, .int 0), (0, .ref (ad w)), (1, .ref (ad p))]) hx hb dX9_begin_55 rfl hl (by decide) rfl (fun ls hl => ?_)
              have loop56 : ∀ (fu : Nat) (k : Nat) (A56 : qA2) (hk : k ≤ 5) (hr1 : A56 (w + 1) = qmap (fun _ _ => 0) (A (w + 1)) 12) (hr2 : A56 (w + 2) = qmap (fun a _ => A (p + 1) a) (A (w + 2)) 6) (hr3 : A56 (w + 3) = qmap (fun _ _ => -1) (A (w + 3)) 6) (hr4 : A56 (w + 4) = qmap (fun a _ => A (p + 3) a) (A (w + 4)) k) (hr5 : A56 (w + 5) = qmap (fun _ _ => 0) (A (w + 5)) k) (hf : ∀ i, (i ≤ w ∨ w + 5 < i) → A56 i = A i), 5 - k < fu → ∀ (H : Heap) (locs : List Loc) (ls : Array Slot), qM E ad S A56 b (qAr ad s.heap.size) s H locs → lv_has ls 3 [(2, .int (nI k)), (0, .ref (ad w)), (1, .ref (ad p))] → W pg l e (headSpec wsX9_begin { frames := 1, cells := 0, slots := 0, locals := 20 }).room s m ([.ref (ad w), .ref (ad p)] : List Value).toArray below meth cd H locs 0 0 (MQ below (qQv E ad s.heap.size (fun S' A' b' => b = b' ∧ (A' (w + 1) = qmap (fun _ _ => 0) (A (w + 1)) 12 ∧ A' (w + 2) = qmap (fun a _ => A (p + 1) a) (A (w + 2)) 6 ∧ A' (w + 3) = qmap (fun _ _ => -1) (A (w + 3)) 6 ∧ A' (w + 4) = qmap (fun a _ => A (p + 3) a) (A (w + 4)) 5 ∧ A' (w + 5) = qmap (fun _ _ => 0) (A (w + 5)) 5) ∧ (∀ i, (i ≤ w ∨ w + 5 < i) → A' i = A i) ∧ S' = q2 (q2 (q2 S w 5 (qall nP)) w 6 0) w 7 0)) ([.ref (ad w), .ref (ad p)] : List Value).toArray s 0 0 (qAr ad s.heap.size)) (F0 m 56 ls []) := by
                intro fu
                induction fu with
                | zero => intro k A56 hk hr1 hr2 hr3 hr4 hr5 hf hn; exact absurd hn (Nat.not_lt_zero _)
                | succ fu ih56 =>
                  intro k A56 hk hr1 hr2 hr3 hr4 hr5 hf hn H locs ls hM hl
                  refine lv_iload_n hx hb dX9_begin_56 rfl (lv_at hl 0 rfl) ?_
                  refine lv_iconst (v := 5) hx hb dX9_begin_57 (by decide) ?_
                  refine lv_icmp_ge (tgt := 86) hx hb dX9_begin_58 (by decide) (fun c_58 => ?_) (fun c_58 => ?_)
                  · skip
                    have c_58 : 5 ≤ k := (nI_leI (a := 5) (b := k) (by omega) (by omega)).mp c_58
                    refine lv_aload_n hx hb dX9_begin_86 rfl (lv_at hl 1 rfl) ?_
                    refine lv_aload_n hx hb dX9_begin_87 rfl (lv_at hl 2 rfl) ?_
                    refine q_callVI (n := 0) (o := p) (As := []) (rest := [.ref (ad w)]) C hM hA (c_X5_allPosts E ad l S A56 b p hp nP hPo (by omega)) (qmem_5 E ad S A56 b kp) (by omega) rfl gX9_begin_X5_allPosts rfl rfl rfl (by decide +kernel) ⟨Nat.le_of_ble_eq_true rfl, Nat.le_of_ble_eq_true rfl⟩ rfl hl.1 rfl (Nat.le_of_ble_eq_true rfl) ⟨Nat.zero_le _, Nat.zero_le _⟩ dX9_begin_88 (fun r_1 S_2 A_3 b_4 H locs qr_1 hM => ?_)
                    obtain ⟨⟨e1, e2, e3⟩, er_1⟩ := qr_1
                    subst e1; subst e2; subst e3
                    refine q_put (o := w) (ci := 9) (k := 5) (T := TX9) (ty := .int) (v := r_1) C hM (qmem_9 E ad S A56 b kw) (by omega) rfl hi9 tyX9 tyX9_ok nmX9 (by decide) hL0 rfl rfl (by decide +kernel) rfl rfl (Nat.le_of_ble_eq_true rfl) (qs_9_5 E ad S A56 b kw r_1) dX9_begin_91 (fun H locs hM => ?_)
                    obtain ⟨S_5, eS_5⟩ : ∃ zz, zz = q2 S w 5 r_1 := ⟨_, rfl⟩
                    rw [← eS_5] at hM
                    refine lv_aload_n hx hb dX9_begin_94 rfl (lv_at hl 1 rfl) ?_
                    refine lv_iconst (v := 0) hx hb dX9_begin_95 (by decide) ?_
                    refine q_put (o := w) (ci := 9) (k := 6) (T := TX9) (ty := .int) (v := 0) C hM (qmem_9 E ad S_5 A56 b kw) (by omega) rfl hi9 tyX9 tyX9_ok nmX9 (by decide) hL1 rfl rfl (by decide +kernel) rfl rfl (Nat.le_of_ble_eq_true rfl) (qs_9_6 E ad S_5 A56 b kw 0) dX9_begin_96 (fun H locs hM => ?_)
                    obtain ⟨S_6, eS_6⟩ : ∃ zz, zz = q2 S_5 w 6 0 := ⟨_, rfl⟩
                    rw [← eS_6] at hM
                    refine lv_aload_n hx hb dX9_begin_99 rfl (lv_at hl 1 rfl) ?_
                    refine lv_iconst (v := 0) hx hb dX9_begin_100 (by decide) ?_
                    refine q_put (o := w) (ci := 9) (k := 7) (T := TX9) (ty := .int) (v := 0) C hM (qmem_9 E ad S_6 A56 b kw) (by omega) rfl hi9 tyX9 tyX9_ok nmX9 (by decide) hL2 rfl rfl (by decide +kernel) rfl rfl (Nat.le_of_ble_eq_true rfl) (qs_9_7 E ad S_6 A56 b kw 0) dX9_begin_101 (fun H locs hM => ?_)
                    obtain ⟨S_7, eS_7⟩ : ∃ zz, zz = q2 S_6 w 7 0 := ⟨_, rfl⟩
                    rw [← eS_7] at hM
                    exact q_vret C hM dX9_begin_104 (by subst_vars; refine ⟨rfl, ⟨hr1, hr2, hr3, ?_, ?_⟩, hf, rfl⟩; exact (by rw [hr4, show k = 5 by omega]); exact (by rw [hr5, show k = 5 by omega]))
                  · skip
                    have c_58 : ¬ (5 ≤ k) := fun z => c_58 ((nI_leI (a := 5) (b := k) (by omega) (by omega)).mpr z)
                    refine lv_aload_n hx hb dX9_begin_61 rfl (lv_at hl 1 rfl) ?_
                    refine q_get (o := w) (ci := 9) (k := 3) (T := TX9) (v := .ref (ad (w + 4))) C hM (qmem_9 E ad S A56 b kw) (by omega) rfl hi9 (by decide) hL3 rfl rfl dX9_begin_62 ?_
                    refine lv_iload_n hx hb dX9_begin_65 rfl (lv_at hl 0 rfl) ?_
                    refine lv_aload_n hx hb dX9_begin_66 rfl (lv_at hl 2 rfl) ?_
                    refine q_get (o := p) (ci := 5) (k := 9) (T := TX5) (v := .ref (ad (p + 3))) C hM (qmem_5 E ad S A56 b kp) (by omega) rfl hi5 (by decide) hL4 rfl rfl dX9_begin_67 ?_
                    refine lv_iload_n hx hb dX9_begin_70 rfl (lv_at hl 0 rfl) ?_
                    refine q_iald (v := A (p + 3) k) C hM kp3 (by rw [lp3]; exact vp_nI (by omega) (by omega)) (by rw [nIc (by omega)]; exact (show A56 (p + 3) k = A (p + 3) k from by rw [hf (p + 3) (by omega)])) dX9_begin_71 ?_
                    refine q_iast C hM kw4 (by rw [lw4]; exact vp_nI (by omega) (by omega)) dX9_begin_72 (fun H locs hM => ?_)
                    rw [nIc (by omega)] at hM
                    obtain ⟨A_8, eA_8⟩ : ∃ zz, zz = q2 A56 (w + 4) k (A (p + 3) k) := ⟨_, rfl⟩
                    rw [← eA_8] at hM
                    refine lv_aload_n hx hb dX9_begin_73 rfl (lv_at hl 1 rfl) ?_
                    refine q_get (o := w) (ci := 9) (k := 4) (T := TX9) (v := .ref (ad (w + 5))) C hM (qmem_9 E ad S A_8 b kw) (by omega) rfl hi9 (by decide) hL5 rfl rfl dX9_begin_74 ?_
                    refine lv_iload_n hx hb dX9_begin_77 rfl (lv_at hl 0 rfl) ?_
                    refine lv_iconst (v := 0) hx hb dX9_begin_78 (by decide) ?_
                    refine q_iast C hM kw5 (by rw [lw5]; exact vp_nI (by omega) (by omega)) dX9_begin_79 (fun H locs hM => ?_)
                    rw [nIc (by omega)] at hM
                    obtain ⟨A_9, eA_9⟩ : ∃ zz, zz = q2 A_8 (w + 5) k 0 := ⟨_, rfl⟩
                    rw [← eA_9] at hM
                    refine lv_iinc (v := nI (k + 1)) (lv' := [(2, .int (nI (k + 1))), (0, .ref (ad w)), (1, .ref (ad p))]) hx hb dX9_begin_80 hl (k := 0) rfl (by rw [nI_succ]; rfl) (by decide) rfl (fun ls hl => ?_)
                    refine lv_goto (tgt := 56) hx hb dX9_begin_83 (by decide) ?_
                    exact ih56 (k + 1) A_9 (by omega) (by rw [eA_9, q2_or _ _ (by omega), eA_8, q2_or _ _ (by omega)]; exact hr1) (by rw [eA_9, q2_or _ _ (by omega), eA_8, q2_or _ _ (by omega)]; exact hr2) (by rw [eA_9, q2_or _ _ (by omega), eA_8, q2_or _ _ (by omega)]; exact hr3) (by rw [eA_9, q2_or _ _ (by omega), eA_8, q2_row, hr4]; exact qmap_s _ _ _ _ rfl) (by rw [eA_9, q2_row, eA_8, q2_or _ _ (by omega), hr5]; exact qmap_s _ _ _ _ rfl) (fun i hi => by rw [eA_9, q2_or _ _ (by omega), eA_8, q2_or _ _ (by omega)]; exact hf i hi) (by omega) _ _ _ hM hl
              exact loop56 (5 - 0 + 1) 0 A23 (by omega) hr1 (by rw [hr2, show k = 6 by omega]) (by rw [hr3, show k = 6 by omega]) hr4 hr5 hf (Nat.lt_succ_self _) _ _ _ hM hl
            · skip
              have c_26 : ¬ (6 ≤ k) := fun z => c_26 ((nI_leI (a := 6) (b := k) (by omega) (by omega)).mpr z)
              refine lv_aload_n hx hb dX9_begin_29 rfl (lv_at hl 1 rfl) ?_
              refine q_get (o := w) (ci := 9) (k := 1) (T := TX9) (v := .ref (ad (w + 2))) C hM (qmem_9 E ad S A23 b kw) (by omega) rfl hi9 (by decide) hL6 rfl rfl dX9_begin_30 ?_
              refine lv_iload_n hx hb dX9_begin_33 rfl (lv_at hl 0 rfl) ?_
              refine lv_aload_n hx hb dX9_begin_34 rfl (lv_at hl 2 rfl) ?_
              refine q_get (o := p) (ci := 5) (k := 7) (T := TX5) (v := .ref (ad (p + 1))) C hM (qmem_5 E ad S A23 b kp) (by omega) rfl hi5 (by decide) hL7 rfl rfl dX9_begin_35 ?_
              refine lv_iload_n hx hb dX9_begin_38 rfl (lv_at hl 0 rfl) ?_
              refine q_iald (v := A (p + 1) k) C hM kp1 (by rw [lp1]; exact vp_nI (by omega) (by omega)) (by rw [nIc (by omega)]; exact (show A23 (p + 1) k = A (p + 1) k from by rw [hf (p + 1) (by omega)])) dX9_begin_39 ?_
              refine q_iast C hM kw2 (by rw [lw2]; exact vp_nI (by omega) (by omega)) dX9_begin_40 (fun H locs hM => ?_)
              rw [nIc (by omega)] at hM
              obtain ⟨A_10, eA_10⟩ : ∃ zz, zz = q2 A23 (w + 2) k (A (p + 1) k) := ⟨_, rfl⟩
              rw [← eA_10] at hM
              refine lv_aload_n hx hb dX9_begin_41 rfl (lv_at hl 1 rfl) ?_
              refine q_get (o := w) (ci := 9) (k := 2) (T := TX9) (v := .ref (ad (w + 3))) C hM (qmem_9 E ad S A_10 b kw) (by omega) rfl hi9 (by decide) hL8 rfl rfl dX9_begin_42 ?_
              refine lv_iload_n hx hb dX9_begin_45 rfl (lv_at hl 0 rfl) ?_
              refine lv_iconst (v := (-1)) hx hb dX9_begin_46 (by decide) ?_
              refine q_iast C hM kw3 (by rw [lw3]; exact vp_nI (by omega) (by omega)) dX9_begin_47 (fun H locs hM => ?_)
              rw [nIc (by omega)] at hM
              obtain ⟨A_11, eA_11⟩ : ∃ zz, zz = q2 A_10 (w + 3) k (-1) := ⟨_, rfl⟩
              rw [← eA_11] at hM
              refine lv_iinc (v := nI (k + 1)) (lv' := [(2, .int (nI (k + 1))), (0, .ref (ad w)), (1, .ref (ad p))]) hx hb dX9_begin_48 hl (k := 0) rfl (by rw [nI_succ]; rfl) (by decide) rfl (fun ls hl => ?_)
              refine lv_goto (tgt := 23) hx hb dX9_begin_51 (by decide) ?_
              exact ih23 (k + 1) A_11 (by omega) (by rw [eA_11, q2_or _ _ (by omega), eA_10, q2_or _ _ (by omega)]; exact hr1) (by rw [eA_11, q2_or _ _ (by omega), eA_10, q2_row, hr2]; exact qmap_s _ _ _ _ rfl) (by rw [eA_11, q2_row, eA_10, q2_or _ _ (by omega), hr3]; exact qmap_s _ _ _ _ rfl) (by rw [eA_11, q2_or _ _ (by omega), eA_10, q2_or _ _ (by omega)]; exact hr4) (by rw [eA_11, q2_or _ _ (by omega), eA_10, q2_or _ _ (by omega)]; exact hr5) (fun i hi => by rw [eA_11, q2_or _ _ (by omega), eA_10, q2_or _ _ (by omega)]; exact hf i hi) (by omega) _ _ _ hM hl
        exact loop23 (6 - 0 + 1) 0 A2 (by omega) (by rw [hr1, show k = 12 by omega]) hr2 hr3 hr4 hr5 hf (Nat.lt_succ_self _) _ _ _ hM hl
      · skip
        have c_5 : ¬ (12 ≤ k) := fun z => c_5 ((nI_leI (a := 12) (b := k) (by omega) (by omega)).mpr z)
        refine lv_aload_n hx hb dX9_begin_8 rfl (lv_at hl 1 rfl) ?_
        refine q_get (o := w) (ci := 9) (k := 0) (T := TX9) (v := .ref (ad (w + 1))) C hM (qmem_9 E ad S A2 b kw) (by omega) rfl hi9 (by decide) hL9 rfl rfl dX9_begin_9 ?_
        refine lv_iload_n hx hb dX9_begin_12 rfl (lv_at hl 0 rfl) ?_
        refine lv_iconst (v := 0) hx hb dX9_begin_13 (by decide) ?_
        refine q_iast C hM kw1 (by rw [lw1]; exact vp_nI (by omega) (by omega)) dX9_begin_14 (fun H locs hM => ?_)
        rw [nIc (by omega)] at hM
        obtain ⟨A_12, eA_12⟩ : ∃ zz, zz = q2 A2 (w + 1) k 0 := ⟨_, rfl⟩
        rw [← eA_12] at hM
        refine lv_iinc (v := nI (k + 1)) (lv' := [(2, .int (nI (k + 1))), (0, .ref (ad w)), (1, .ref (ad p))]) hx hb dX9_begin_15 hl (k := 0) rfl (by rw [nI_succ]; rfl) (by decide) rfl (fun ls hl => ?_)
        refine lv_goto (tgt := 2) hx hb dX9_begin_18 (by decide) ?_
        exact ih2 (k + 1) A_12 (by omega) (by rw [eA_12, q2_row, hr1]; exact qmap_s _ _ _ _ rfl) (by rw [eA_12, q2_or _ _ (by omega)]; exact hr2) (by rw [eA_12, q2_or _ _ (by omega)]; exact hr3) (by rw [eA_12, q2_or _ _ (by omega)]; exact hr4) (by rw [eA_12, q2_or _ _ (by omega)]; exact hr5) (fun i hi => by rw [eA_12, q2_or _ _ (by omega)]; exact hf i hi) (by omega) _ _ _ hM hl
  exact loop2 (12 - 0 + 1) 0 A (by omega) ((qmap_0 _ _).symm) ((qmap_0 _ _).symm) ((qmap_0 _ _).symm) ((qmap_0 _ _).symm) ((qmap_0 _ _).symm) (fun _ _ => rfl) (Nat.lt_succ_self _) _ _ _ hM hl

set_option maxHeartbeats 4000000 in
set_option maxRecDepth 100000 in
theorem c_X9_copyFrom (E : qE) (ad : Nat → Nat) (l : Launch) (S A : qA2) (b : qB) (w : Nat) (hw : qw w) (u : Nat) (hu : qw u) (had : w + 6 ≤ u ∨ u + 6 ≤ w) : MV E ad l yX9_copyFrom wsX9_copyFrom { frames := 1, cells := 0, slots := 0, locals := 18 } [.ref (ad w), .ref (ad u)] S A b (fun S' A' b' => b = b' ∧ ((∀ k, k < 12 → A' (w + 1) k = A (u + 1) k) ∧ (∀ k, k < 6 → A' (w + 2) k = A (u + 2) k) ∧ (∀ k, k < 6 → A' (w + 3) k = A (u + 3) k) ∧ (∀ k, k < 5 → A' (w + 4) k = A (u + 4) k) ∧ (∀ k, k < 5 → A' (w + 5) k = A (u + 5) k)) ∧ (∀ i, (i ≤ w ∨ w + 5 < i) → A' i = A i) ∧ (S' w 5 = S u 5 ∧ S' w 6 = S u 6 ∧ S' w 7 = S u 7) ∧ ∀ i, i ≠ w → S' i = S i) := by
  obtain ⟨⟨kw, kw1, kw2, kw3, kw4, kw5⟩, ⟨lw1, lw2, lw3, lw4, lw5⟩, bw, bw6⟩ := qw_all hw
  obtain ⟨⟨ku, ku1, ku2, ku3, ku4, ku5⟩, ⟨lu1, lu2, lu3, lu4, lu5⟩, bu, bu6⟩ := qw_all hu
  refine MV.of (cc := cX9_copyFrom) (maxL := 2) (ret := none) RX9 rfl (by decide) rfl ?_
  intro pg e s m below meth cd C hM
  have hx := C.1
  have hb := C.2.1
  have hts := C.2.2.2.2.1
  have hA : ∀ q, s.heap.size ≤ q → qAr ad s.heap.size q := fun _ h => Or.inr h
  have hi9 : ∀ w ∈ u_ws RX9 TX9 8, w ∈ wsX9_copyFrom := by decide +kernel
  have hL0 := hts (.fieldLink RX9 9 "CrowFences$Winter" "snow" "[I") (by decide +kernel)
  have hL1 := hts (.methodLink RX9 45 arraycopyName) (by decide +kernel)
  have hL2 := hts (.native arraycopyName) (by decide +kernel)
  have hL3 := hts (.static arraycopyName) (by decide +kernel)
  have hL4 := hts (.initialized "java/lang/System") (by decide +kernel)
  have hL5 := hts (.fieldLink RX9 15 "CrowFences$Winter" "cellOf" "[I") (by decide +kernel)
  have hL6 := hts (.fieldLink RX9 18 "CrowFences$Winter" "crowOn" "[I") (by decide +kernel)
  have hL7 := hts (.fieldLink RX9 21 "CrowFences$Winter" "bid" "[I") (by decide +kernel)
  have hL8 := hts (.fieldLink RX9 24 "CrowFences$Winter" "paid" "[I") (by decide +kernel)
  have hL9 := hts (.fieldLink RX9 35 "CrowFences$Winter" "standing" "I") (by decide +kernel)
  have hL10 := hts (.fieldLink RX9 39 "CrowFences$Winter" "hours" "I") (by decide +kernel)
  have hL11 := hts (.fieldLink RX9 42 "CrowFences$Winter" "spoons" "I") (by decide +kernel)
  have hl := lv_entry ([.ref (ad w), .ref (ad u)]) (n := 2) (Nat.le_of_ble_eq_true rfl)
  rw [lg_entry_eq]
  generalize (lg_sl ([.ref (ad w), .ref (ad u)]) ++ List.replicate (2 - (lg_sl ([.ref (ad w), .ref (ad u)])).length) Slot.unset).toArray = ls at hl ⊢
  have hl : lv_has ls 2 [(0, .ref (ad w)), (1, .ref (ad u))] := hl
  refine lv_aload_n hx hb dX9_copyFrom_0 rfl (lv_at hl 1 rfl) ?_
  refine q_get (o := u) (ci := 9) (k := 0) (T := TX9) (v := .ref (ad (u + 1))) C hM (qmem_9 E ad S A b ku) (by omega) rfl hi9 (by decide) hL0 rfl rfl dX9_copyFrom_1 ?_
  refine lv_iconst (v := 0) hx hb dX9_copyFrom_4 (by decide) ?_
  refine lv_aload_n hx hb dX9_copyFrom_5 rfl (lv_at hl 0 rfl) ?_
  refine q_get (o := w) (ci := 9) (k := 0) (T := TX9) (v := .ref (ad (w + 1))) C hM (qmem_9 E ad S A b kw) (by omega) rfl hi9 (by decide) hL0 rfl rfl dX9_copyFrom_6 ?_
  refine lv_iconst (v := 0) hx hb dX9_copyFrom_9 (by decide) ?_
  refine lv_bipush (v := 12) hx hb dX9_copyFrom_10 (by decide) ?_
  refine q_copy C hM ku1 kw1 hl.1 hL1 hL2 hL3 hL4 (by decide) (by decide) (by decide) (by rw [lu1]; decide) (by rw [lw1]; decide) (Nat.le_of_ble_eq_true rfl) (by decide +kernel) dX9_copyFrom_12 (fun H locs hM => ?_)
  obtain ⟨A_1, eA_1⟩ : ∃ zz, zz = qr A (w + 1) (va_cpy (A (u + 1)) (A (w + 1)) 0 0 12) := ⟨_, rfl⟩
  replace hM : qM E ad S A_1 b (qAr ad s.heap.size) s H locs := by rw [eA_1]; exact hM
  refine lv_aload_n hx hb dX9_copyFrom_15 rfl (lv_at hl 1 rfl) ?_
  refine q_get (o := u) (ci := 9) (k := 1) (T := TX9) (v := .ref (ad (u + 2))) C hM (qmem_9 E ad S A_1 b ku) (by omega) rfl hi9 (by decide) hL5 rfl rfl dX9_copyFrom_16 ?_
  refine lv_iconst (v := 0) hx hb dX9_copyFrom_19 (by decide) ?_
  refine lv_aload_n hx hb dX9_copyFrom_20 rfl (lv_at hl 0 rfl) ?_
  refine q_get (o := w) (ci := 9) (k := 1) (T := TX9) (v := .ref (ad (w + 2))) C hM (qmem_9 E ad S A_1 b kw) (by omega) rfl hi9 (by decide) hL5 rfl rfl dX9_copyFrom_21 ?_
  refine lv_iconst (v := 0) hx hb dX9_copyFrom_24 (by decide) ?_
  refine lv_bipush (v := 6) hx hb dX9_copyFrom_25 (by decide) ?_
  refine q_copy C hM ku2 kw2 hl.1 hL1 hL2 hL3 hL4 (by decide) (by decide) (by decide) (by rw [lu2]; decide) (by rw [lw2]; decide) (Nat.le_of_ble_eq_true rfl) (by decide +kernel) dX9_copyFrom_27 (fun H locs hM => ?_)
  obtain ⟨A_2, eA_2⟩ : ∃ zz, zz = qr A_1 (w + 2) (va_cpy (A_1 (u + 2)) (A_1 (w + 2)) 0 0 6) := ⟨_, rfl⟩
  replace hM : qM E ad S A_2 b (qAr ad s.heap.size) s H locs := by rw [eA_2]; exact hM
  refine lv_aload_n hx hb dX9_copyFrom_30 rfl (lv_at hl 1 rfl) ?_
  refine q_get (o := u) (ci := 9) (k := 2) (T := TX9) (v := .ref (ad (u + 3))) C hM (qmem_9 E ad S A_2 b ku) (by omega) rfl hi9 (by decide) hL6 rfl rfl dX9_copyFrom_31 ?_
  refine lv_iconst (v := 0) hx hb dX9_copyFrom_34 (by decide) ?_
  refine lv_aload_n hx hb dX9_copyFrom_35 rfl (lv_at hl 0 rfl) ?_
  refine q_get (o := w) (ci := 9) (k := 2) (T := TX9) (v := .ref (ad (w + 3))) C hM (qmem_9 E ad S A_2 b kw) (by omega) rfl hi9 (by decide) hL6 rfl rfl dX9_copyFrom_36 ?_
  refine lv_iconst (v := 0) hx hb dX9_copyFrom_39 (by decide) ?_
  refine lv_bipush (v := 6) hx hb dX9_copyFrom_40 (by decide) ?_
  refine q_copy C hM ku3 kw3 hl.1 hL1 hL2 hL3 hL4 (by decide) (by decide) (by decide) (by rw [lu3]; decide) (by rw [lw3]; decide) (Nat.le_of_ble_eq_true rfl) (by decide +kernel) dX9_copyFrom_42 (fun H locs hM => ?_)
  obtain ⟨A_3, eA_3⟩ : ∃ zz, zz = qr A_2 (w + 3) (va_cpy (A_2 (u + 3)) (A_2 (w + 3)) 0 0 6) := ⟨_, rfl⟩
  replace hM : qM E ad S A_3 b (qAr ad s.heap.size) s H locs := by rw [eA_3]; exact hM
  refine lv_aload_n hx hb dX9_copyFrom_45 rfl (lv_at hl 1 rfl) ?_
  refine q_get (o := u) (ci := 9) (k := 3) (T := TX9) (v := .ref (ad (u + 4))) C hM (qmem_9 E ad S A_3 b ku) (by omega) rfl hi9 (by decide) hL7 rfl rfl dX9_copyFrom_46 ?_
  refine lv_iconst (v := 0) hx hb dX9_copyFrom_49 (by decide) ?_
  refine lv_aload_n hx hb dX9_copyFrom_50 rfl (lv_at hl 0 rfl) ?_
  refine q_get (o := w) (ci := 9) (k := 3) (T := TX9) (v := .ref (ad (w + 4))) C hM (qmem_9 E ad S A_3 b kw) (by omega) rfl hi9 (by decide) hL7 rfl rfl dX9_copyFrom_51 ?_
  refine lv_iconst (v := 0) hx hb dX9_copyFrom_54 (by decide) ?_
  refine lv_iconst (v := 5) hx hb dX9_copyFrom_55 (by decide) ?_
  refine q_copy C hM ku4 kw4 hl.1 hL1 hL2 hL3 hL4 (by decide) (by decide) (by decide) (by rw [lu4]; decide) (by rw [lw4]; decide) (Nat.le_of_ble_eq_true rfl) (by decide +kernel) dX9_copyFrom_56 (fun H locs hM => ?_)
  obtain ⟨A_4, eA_4⟩ : ∃ zz, zz = qr A_3 (w + 4) (va_cpy (A_3 (u + 4)) (A_3 (w + 4)) 0 0 5) := ⟨_, rfl⟩
  replace hM : qM E ad S A_4 b (qAr ad s.heap.size) s H locs := by rw [eA_4]; exact hM
  refine lv_aload_n hx hb dX9_copyFrom_59 rfl (lv_at hl 1 rfl) ?_
  refine q_get (o := u) (ci := 9) (k := 4) (T := TX9) (v := .ref (ad (u + 5))) C hM (qmem_9 E ad S A_4 b ku) (by omega) rfl hi9 (by decide) hL8 rfl rfl dX9_copyFrom_60 ?_
  refine lv_iconst (v := 0) hx hb dX9_copyFrom_63 (by decide) ?_
  refine lv_aload_n hx hb dX9_copyFrom_64 rfl (lv_at hl 0 rfl) ?_
  refine q_get (o := w) (ci := 9) (k := 4) (T := TX9) (v := .ref (ad (w + 5))) C hM (qmem_9 E ad S A_4 b kw) (by omega) rfl hi9 (by decide) hL8 rfl rfl dX9_copyFrom_65 ?_
  refine lv_iconst (v := 0) hx hb dX9_copyFrom_68 (by decide) ?_
  refine lv_iconst (v := 5) hx hb dX9_copyFrom_69 (by decide) ?_
  refine q_copy C hM ku5 kw5 hl.1 hL1 hL2 hL3 hL4 (by decide) (by decide) (by decide) (by rw [lu5]; decide) (by rw [lw5]; decide) (Nat.le_of_ble_eq_true rfl) (by decide +kernel) dX9_copyFrom_70 (fun H locs hM => ?_)
  obtain ⟨A_5, eA_5⟩ : ∃ zz, zz = qr A_4 (w + 5) (va_cpy (A_4 (u + 5)) (A_4 (w + 5)) 0 0 5) := ⟨_, rfl⟩
  replace hM : qM E ad S A_5 b (qAr ad s.heap.size) s H locs := by rw [eA_5]; exact hM
  refine lv_aload_n hx hb dX9_copyFrom_73 rfl (lv_at hl 0 rfl) ?_
  refine lv_aload_n hx hb dX9_copyFrom_74 rfl (lv_at hl 1 rfl) ?_
  refine q_get (o := u) (ci := 9) (k := 5) (T := TX9) (v := .int (S u 5)) C hM (qmem_9 E ad S A_5 b ku) (by omega) rfl hi9 (by decide) hL9 rfl rfl dX9_copyFrom_75 ?_
  refine q_put (o := w) (ci := 9) (k := 5) (T := TX9) (ty := .int) (v := S u 5) C hM (qmem_9 E ad S A_5 b kw) (by omega) rfl hi9 tyX9 tyX9_ok nmX9 (by decide) hL9 rfl rfl (by decide +kernel) rfl rfl (Nat.le_of_ble_eq_true rfl) (qs_9_5 E ad S A_5 b kw (S u 5)) dX9_copyFrom_78 (fun H locs hM => ?_)
  obtain ⟨S_6, eS_6⟩ : ∃ zz, zz = q2 S w 5 (S u 5) := ⟨_, rfl⟩
  rw [← eS_6] at hM
  refine lv_aload_n hx hb dX9_copyFrom_81 rfl (lv_at hl 0 rfl) ?_
  refine lv_aload_n hx hb dX9_copyFrom_82 rfl (lv_at hl 1 rfl) ?_
  refine q_get (o := u) (ci := 9) (k := 6) (T := TX9) (v := .int (S u 6)) C hM (qmem_9 E ad S_6 A_5 b ku) (by omega) rfl hi9 (by decide) hL10 rfl (congrArg (fun z => some (Value.int z)) (show S_6 u 6 = S u 6 from by rw [eS_6, q2_o _ _ (by omega)])) dX9_copyFrom_83 ?_
  refine q_put (o := w) (ci := 9) (k := 6) (T := TX9) (ty := .int) (v := S u 6) C hM (qmem_9 E ad S_6 A_5 b kw) (by omega) rfl hi9 tyX9 tyX9_ok nmX9 (by decide) hL10 rfl rfl (by decide +kernel) rfl rfl (Nat.le_of_ble_eq_true rfl) (qs_9_6 E ad S_6 A_5 b kw (S u 6)) dX9_copyFrom_86 (fun H locs hM => ?_)
  obtain ⟨S_7, eS_7⟩ : ∃ zz, zz = q2 S_6 w 6 (S u 6) := ⟨_, rfl⟩
  rw [← eS_7] at hM
  refine lv_aload_n hx hb dX9_copyFrom_89 rfl (lv_at hl 0 rfl) ?_
  refine lv_aload_n hx hb dX9_copyFrom_90 rfl (lv_at hl 1 rfl) ?_
  refine q_get (o := u) (ci := 9) (k := 7) (T := TX9) (v := .int (S u 7)) C hM (qmem_9 E ad S_7 A_5 b ku) (by omega) rfl hi9 (by decide) hL11 rfl (congrArg (fun z => some (Value.int z)) (show S_7 u 7 = S u 7 from by rw [eS_7, q2_o _ _ (by omega)]; rw [eS_6, q2_o _ _ (by omega)])) dX9_copyFrom_91 ?_
  refine q_put (o := w) (ci := 9) (k := 7) (T := TX9) (ty := .int) (v := S u 7) C hM (qmem_9 E ad S_7 A_5 b kw) (by omega) rfl hi9 tyX9 tyX9_ok nmX9 (by decide) hL11 rfl rfl (by decide +kernel) rfl rfl (Nat.le_of_ble_eq_true rfl) (qs_9_7 E ad S_7 A_5 b kw (S u 7)) dX9_copyFrom_94 (fun H locs hM => ?_)
  obtain ⟨S_8, eS_8⟩ : ∃ zz, zz = q2 S_7 w 7 (S u 7) := ⟨_, rfl⟩
  rw [← eS_8] at hM
  exact q_vret C hM dX9_copyFrom_97 (by exact ⟨rfl, ⟨fun k hk => by rw [eA_5, qr_o _ _ (by omega), eA_4, qr_o _ _ (by omega), eA_3, qr_o _ _ (by omega), eA_2, qr_o _ _ (by omega), eA_1, qr_s, pk_cpy_in (by omega) (by omega), Nat.zero_add, Nat.sub_zero], fun k hk => by rw [eA_5, qr_o _ _ (by omega), eA_4, qr_o _ _ (by omega), eA_3, qr_o _ _ (by omega), eA_2, qr_s, pk_cpy_in (by omega) (by omega), eA_1, qr_o _ _ (by omega), Nat.zero_add, Nat.sub_zero], fun k hk => by rw [eA_5, qr_o _ _ (by omega), eA_4, qr_o _ _ (by omega), eA_3, qr_s, pk_cpy_in (by omega) (by omega), eA_2, qr_o _ _ (by omega), eA_1, qr_o _ _ (by omega), Nat.zero_add, Nat.sub_zero], fun k hk => by rw [eA_5, qr_o _ _ (by omega), eA_4, qr_s, pk_cpy_in (by omega) (by omega), eA_3, qr_o _ _ (by omega), eA_2, qr_o _ _ (by omega), eA_1, qr_o _ _ (by omega), Nat.zero_add, Nat.sub_zero], fun k hk => by rw [eA_5, qr_s, pk_cpy_in (by omega) (by omega), eA_4, qr_o _ _ (by omega), eA_3, qr_o _ _ (by omega), eA_2, qr_o _ _ (by omega), eA_1, qr_o _ _ (by omega), Nat.zero_add, Nat.sub_zero]⟩, fun i hi => by rw [eA_5, qr_o _ _ (by omega), eA_4, qr_o _ _ (by omega), eA_3, qr_o _ _ (by omega), eA_2, qr_o _ _ (by omega), eA_1, qr_o _ _ (by omega)], ⟨by rw [eS_8, q2_k _ _ (by omega), eS_7, q2_k _ _ (by omega), eS_6, q2_s], by rw [eS_8, q2_k _ _ (by omega), eS_7, q2_s], by rw [eS_8, q2_s]⟩, fun i hi => by rw [eS_8, q2_or _ _ hi, eS_7, q2_or _ _ hi, eS_6, q2_or _ _ hi]⟩)

set_option maxHeartbeats 4000000 in
set_option maxRecDepth 100000 in
theorem c_X9_blow (E : qE) (ad : Nat → Nat) (l : Launch) (S A : qA2) (b : qB) (w : Nat) (hw : qw w) (p : Nat) (hp : qpl p) (a2 a3 a4 : Int32) (nC : Nat) (hC : S p 0 = nI nC) (hCb : nC ≤ 12) (nP : Nat) (hPo : S p 4 = nI nP) (hPb : nP ≤ 6) : MV E ad l yX9_blow wsX9_blow { frames := 1, cells := 0, slots := 0, locals := 23 } [.ref (ad w), .ref (ad p), .int a2, .int a3, .int a4] S A b (fun S' A' b' => b = b' ∧ S' = q2 (q2 S w 5 (qhour nC nP (S p 1) (A (w + 2)) a2 a3 a4 (A (w + 1), S w 5, S w 6)).2.1) w 6 (qhour nC nP (S p 1) (A (w + 2)) a2 a3 a4 (A (w + 1), S w 5, S w 6)).2.2 ∧ A' (w + 1) = (qhour nC nP (S p 1) (A (w + 2)) a2 a3 a4 (A (w + 1), S w 5, S w 6)).1 ∧ ∀ i, i ≠ w + 1 → A' i = A i) := by
  obtain ⟨⟨kw, kw1, kw2, kw3, kw4, kw5⟩, ⟨lw1, lw2, lw3, lw4, lw5⟩, bw, bw6⟩ := qw_all hw
  obtain ⟨⟨kp, kp1, kp2, kp3, kp4, kp5, kp6⟩, ⟨lp1, lp2, lp3, lp4, lp5, lp6⟩, bp, bp7⟩ := qpl_all hp
  refine MV.of (cc := cX9_blow) (maxL := 12) (ret := none) RX9 rfl (by decide) rfl ?_
  intro pg e s m below meth cd C hM
  have hx := C.1
  have hb := C.2.1
  have hts := C.2.2.2.2.1
  have hA : ∀ q, s.heap.size ≤ q → qAr ad s.heap.size q := fun _ h => Or.inr h
  have hi5 : ∀ w ∈ u_ws RX5 TX5 13, w ∈ wsX9_blow := by decide +kernel
  have hi9 : ∀ w ∈ u_ws RX9 TX9 8, w ∈ wsX9_blow := by decide +kernel
  have hL0 := hts (.fieldLink RX9 64 "CrowFences$Plan" "cells" "I") (by decide +kernel)
  have hL1 := hts (.fieldLink RX9 39 "CrowFences$Winter" "hours" "I") (by decide +kernel)
  have hL2 := hts (.fieldLink RX9 9 "CrowFences$Winter" "snow" "[I") (by decide +kernel)
  have hL3 := hts (.methodLink RX9 58 Lib.Math.min.name) (by decide +kernel)
  have hL4 := hts (.static Lib.Math.min.name) (by decide +kernel)
  have hL5 := hts (.initialized "java/lang/Math") (by decide +kernel)
  have hL6 := hts (.code Lib.Math.min.name Lib.Math.min.code 2 (some .int)) (by decide +kernel)
  have hL7 := hts (.fieldLink RX9 67 "CrowFences$Plan" "posts" "I") (by decide +kernel)
  have hL8 := hts (.methodLink RX9 100 Lib.Math.abs.name) (by decide +kernel)
  have hL9 := hts (.static Lib.Math.abs.name) (by decide +kernel)
  have hL10 := hts (.code Lib.Math.abs.name Lib.Math.abs.code 1 (some .int)) (by decide +kernel)
  have hL11 := hts (.fieldLink RX9 104 "CrowFences$Plan" "strongestHarmless" "I") (by decide +kernel)
  have hL12 := hts (.fieldLink RX9 35 "CrowFences$Winter" "standing" "I") (by decide +kernel)
  have hl := lv_entry ([.ref (ad w), .ref (ad p), .int a2, .int a3, .int a4]) (n := 12) (Nat.le_of_ble_eq_true rfl)
  rw [lg_entry_eq]
  generalize (lg_sl ([.ref (ad w), .ref (ad p), .int a2, .int a3, .int a4]) ++ List.replicate (12 - (lg_sl ([.ref (ad w), .ref (ad p), .int a2, .int a3, .int a4])).length) Slot.unset).toArray = ls at hl ⊢
  have hl : lv_has ls 12 [(0, .ref (ad w)), (1, .ref (ad p)), (2, .int a2), (3, .int a3), (4, .int a4)] := hl
  refine lv_iload_n hx hb dX9_blow_0 rfl (lv_at hl 2 rfl) ?_
  refine lv_bipush (v := 9) hx hb dX9_blow_1 (by decide) ?_
  refine lv_isub hx hb dX9_blow_3 ?_
  refine lv_topi (fun x5_1 ex5_1 => ?_)
  refine lv_istore (lv' := [(5, .int x5_1), (0, .ref (ad w)), (1, .ref (ad p)), (2, .int a2), (3, .int a3), (4, .int a4)]) hx hb dX9_blow_4 hl (by decide) rfl (fun ls hl => ?_)
  have join29 : ∀ (S29 : qA2) (h29 : S29 = q2 S w 5 (qhst (S p 1) a2 a4 (S w 5))) (H : Heap) (locs : List Loc) (ls : Array Slot), qM E ad S29 A b (qAr ad s.heap.size) s H locs → lv_has ls 12 [(5, .int x5_1), (0, .ref (ad w)), (1, .ref (ad p)), (2, .int a2), (3, .int a3), (4, .int a4)] → W pg l e (headSpec wsX9_blow { frames := 1, cells := 0, slots := 0, locals := 23 }).room s m ([.ref (ad w), .ref (ad p), .int a2, .int a3, .int a4] : List Value).toArray below meth cd H locs 0 0 (MQ below (qQv E ad s.heap.size (fun S' A' b' => b = b' ∧ S' = q2 (q2 S w 5 (qhour nC nP (S p 1) (A (w + 2)) a2 a3 a4 (A (w + 1), S w 5, S w 6)).2.1) w 6 (qhour nC nP (S p 1) (A (w + 2)) a2 a3 a4 (A (w + 1), S w 5, S w 6)).2.2 ∧ A' (w + 1) = (qhour nC nP (S p 1) (A (w + 2)) a2 a3 a4 (A (w + 1), S w 5, S w 6)).1 ∧ ∀ i, i ≠ w + 1 → A' i = A i)) ([.ref (ad w), .ref (ad p), .int a2, .int a3, .int a4] : List Value).toArray s 0 0 (qAr ad s.heap.size)) (F0 m 29 ls []) := by
    intro S29 h29 H locs ls hM hl
    have join49 : ∀ (ke : Int32) (hkp : ke = qkeep nC nP (A (w + 2)) a2 (qhst (S p 1) a2 a4 (S w 5))) (H : Heap) (locs : List Loc) (ls : Array Slot), qM E ad S29 A b (qAr ad s.heap.size) s H locs → lv_has ls 12 [(5, .int x5_1), (0, .ref (ad w)), (1, .ref (ad p)), (2, .int a2), (3, .int a3), (4, .int a4)] → W pg l e (headSpec wsX9_blow { frames := 1, cells := 0, slots := 0, locals := 23 }).room s m ([.ref (ad w), .ref (ad p), .int a2, .int a3, .int a4] : List Value).toArray below meth cd H locs 0 0 (MQ below (qQv E ad s.heap.size (fun S' A' b' => b = b' ∧ S' = q2 (q2 S w 5 (qhour nC nP (S p 1) (A (w + 2)) a2 a3 a4 (A (w + 1), S w 5, S w 6)).2.1) w 6 (qhour nC nP (S p 1) (A (w + 2)) a2 a3 a4 (A (w + 1), S w 5, S w 6)).2.2 ∧ A' (w + 1) = (qhour nC nP (S p 1) (A (w + 2)) a2 a3 a4 (A (w + 1), S w 5, S w 6)).1 ∧ ∀ i, i ≠ w + 1 → A' i = A i)) ([.ref (ad w), .ref (ad p), .int a2, .int a3, .int a4] : List Value).toArray s 0 0 (qAr ad s.heap.size)) (F0 m 49 ls [.int ke]) := by
      intro ke hkp H locs ls hM hl
      refine lv_istore (lv' := [(6, .int ke), (5, .int x5_1), (0, .ref (ad w)), (1, .ref (ad p)), (2, .int a2), (3, .int a3), (4, .int a4)]) hx hb dX9_blow_49 hl (by decide) rfl (fun ls hl => ?_)
      refine lv_iconst (v := 0) hx hb dX9_blow_51 (by decide) ?_
      refine lv_istore (lv' := [(7, .int 0), (6, .int ke), (5, .int x5_1), (0, .ref (ad w)), (1, .ref (ad p)), (2, .int a2), (3, .int a3), (4, .int a4)]) hx hb dX9_blow_52 hl (by decide) rfl (fun ls hl => ?_)
      refine lv_iconst (v := 0) hx hb dX9_blow_54 (by decide) ?_
      refine lv_istore (lv' := [(8, .int 0), (7, .int 0), (6, .int ke), (5, .int x5_1), (0, .ref (ad w)), (1, .ref (ad p)), (2, .int a2), (3, .int a3), (4, .int a4)]) hx hb dX9_blow_55 hl (by decide) rfl (fun ls hl => ?_)
      have loop57 : ∀ (fu : Nat) (bl : Int32) (k : Nat) (A57 : qA2) (hk : k ≤ nC) (hr : (A57 (w + 1), bl) = qbl nC (a2 - 9 < 0) a3 (fun a => ¬ qtb ke (nI a) = 0) (A (w + 1)) k) (hf : ∀ i, i ≠ w + 1 → A57 i = A i), nC - k < fu → ∀ (H : Heap) (locs : List Loc) (ls : Array Slot), qM E ad S29 A57 b (qAr ad s.heap.size) s H locs → lv_has ls 12 [(8, .int (nI k)), (7, .int bl), (6, .int ke), (5, .int x5_1), (0, .ref (ad w)), (1, .ref (ad p)), (2, .int a2), (3, .int a3), (4, .int a4)] → W pg l e (headSpec wsX9_blow { frames := 1, cells := 0, slots := 0, locals := 23 }).room s m ([.ref (ad w), .ref (ad p), .int a2, .int a3, .int a4] : List Value).toArray below meth cd H locs 0 0 (MQ below (qQv E ad s.heap.size (fun S' A' b' => b = b' ∧ S' = q2 (q2 S w 5 (qhour nC nP (S p 1) (A (w + 2)) a2 a3 a4 (A (w + 1), S w 5, S w 6)).2.1) w 6 (qhour nC nP (S p 1) (A (w + 2)) a2 a3 a4 (A (w + 1), S w 5, S w 6)).2.2 ∧ A' (w + 1) = (qhour nC nP (S p 1) (A (w + 2)) a2 a3 a4 (A (w + 1), S w 5, S w 6)).1 ∧ ∀ i, i ≠ w + 1 → A' i = A i)) ([.ref (ad w), .ref (ad p), .int a2, .int a3, .int a4] : List Value).toArray s 0 0 (qAr ad s.heap.size)) (F0 m 57 ls []) := by
        intro fu
        induction fu with
        | zero => intro bl k A57 hk hr hf hn; exact absurd hn (Nat.not_lt_zero _)
        | succ fu ih57 =>
          intro bl k A57 hk hr hf hn H locs ls hM hl
          refine lv_iload hx hb dX9_blow_57 (lv_at hl 0 rfl) ?_
          refine lv_aload_n hx hb dX9_blow_59 rfl (lv_at hl 5 rfl) ?_
          refine q_get (o := p) (ci := 5) (k := 0) (T := TX5) (v := .int (S p 0)) C hM (qmem_5 E ad S29 A57 b kp) (by omega) rfl hi5 (by decide) hL0 rfl (congrArg (fun z => some (Value.int z)) (show S29 p 0 = S p 0 from by rw [h29, q2_o _ _ (by omega)])) dX9_blow_60 ?_
          refine lv_as (y := nI nC) hC ?_
          refine lv_icmp_ge (tgt := 150) hx hb dX9_blow_63 (by decide) (fun c_63 => ?_) (fun c_63 => ?_)
          · skip
            have c_63 : nC ≤ k := (nI_leI (a := nC) (b := k) (by omega) (by omega)).mp c_63
            refine lv_aload_n hx hb dX9_blow_150 rfl (lv_at hl 4 rfl) ?_
            refine lv_dup hx hb dX9_blow_151 rfl ?_
            refine q_get (o := w) (ci := 9) (k := 6) (T := TX9) (v := .int (S w 6)) C hM (qmem_9 E ad S29 A57 b kw) (by omega) rfl hi9 (by decide) hL1 rfl (congrArg (fun z => some (Value.int z)) (show S29 w 6 = S w 6 from by rw [h29, q2_k _ _ (by omega)])) dX9_blow_152 ?_
            refine lv_iconst (v := 1) hx hb dX9_blow_155 (by decide) ?_
            refine lv_iadd hx hb dX9_blow_156 ?_
            refine lv_topi (fun v_2 ev_2 => ?_)
            refine q_put (o := w) (ci := 9) (k := 6) (T := TX9) (ty := .int) (v := v_2) C hM (qmem_9 E ad S29 A57 b kw) (by omega) rfl hi9 tyX9 tyX9_ok nmX9 (by decide) hL1 rfl rfl (by decide +kernel) rfl rfl (Nat.le_of_ble_eq_true rfl) (qs_9_6 E ad S29 A57 b kw v_2) dX9_blow_157 (fun H locs hM => ?_)
            obtain ⟨S_3, eS_3⟩ : ∃ zz, zz = q2 S29 w 6 v_2 := ⟨_, rfl⟩
            rw [← eS_3] at hM
            exact q_vret C hM dX9_blow_160 (by exact ⟨rfl, by rw [eS_3, ev_2, h29]; rfl, by have hz := congrArg Prod.fst hr; rw [show k = nC by omega, hkp] at hz; exact hz, hf⟩)
          · skip
            have c_63 : ¬ (nC ≤ k) := fun z => c_63 ((nI_leI (a := nC) (b := k) (by omega) (by omega)).mpr z)
            refine lv_iload hx hb dX9_blow_66 (lv_at hl 3 rfl) ?_
            refine lv_if_ge (tgt := 83) hx hb dX9_blow_68 (by decide) (fun c_68 => ?_) (fun c_68 => ?_)
            · skip
              refine lv_iload hx hb dX9_blow_83 (lv_at hl 0 rfl) ?_
              refine lv_istore (lv' := [(9, .int (nI k)), (8, .int (nI k)), (7, .int bl), (6, .int ke), (5, .int x5_1), (0, .ref (ad w)), (1, .ref (ad p)), (2, .int a2), (3, .int a3), (4, .int a4)]) hx hb dX9_blow_85 hl (by decide) rfl (fun ls hl => ?_)
              refine lv_iload_n hx hb dX9_blow_87 rfl (lv_at hl 8 rfl) ?_
              refine lv_iload hx hb dX9_blow_88 (lv_at hl 2 rfl) ?_
              refine lv_iadd hx hb dX9_blow_90 ?_
              refine lv_topi (fun x10_4 ex10_4 => ?_)
              refine lv_istore (lv' := [(10, .int x10_4), (9, .int (nI k)), (8, .int (nI k)), (7, .int bl), (6, .int ke), (5, .int x5_1), (0, .ref (ad w)), (1, .ref (ad p)), (2, .int a2), (3, .int a3), (4, .int a4)]) hx hb dX9_blow_91 hl (by decide) rfl (fun ls hl => ?_)
              refine lv_iload hx hb dX9_blow_93 (lv_at hl 4 rfl) ?_
              refine lv_iload hx hb dX9_blow_95 (lv_at hl 1 rfl) ?_
              refine lv_ishr hx hb dX9_blow_97 ?_
              refine lv_iconst (v := 1) hx hb dX9_blow_98 (by decide) ?_
              refine lv_iand hx hb dX9_blow_99 ?_
              refine lv_if_eq (tgt := 108) hx hb dX9_blow_100 (by decide) (fun c_100 => ?_) (fun c_100 => ?_)
              · skip
                refine lv_iload hx hb dX9_blow_108 (lv_at hl 0 rfl) ?_
                refine lv_iconst (v := 2) hx hb dX9_blow_110 (by decide) ?_
                refine lv_idiv hx hb dX9_blow_111 (by decide) ?_
                refine lv_topi (fun x11_5 ex11_5 => ?_)
                refine lv_istore (lv' := [(11, .int x11_5), (10, .int x10_4), (9, .int (nI k)), (8, .int (nI k)), (7, .int bl), (6, .int ke), (5, .int x5_1), (0, .ref (ad w)), (1, .ref (ad p)), (2, .int a2), (3, .int a3), (4, .int a4)]) hx hb dX9_blow_112 hl (by decide) rfl (fun ls hl => ?_)
                refine lv_aload_n hx hb dX9_blow_114 rfl (lv_at hl 7 rfl) ?_
                refine q_get (o := w) (ci := 9) (k := 0) (T := TX9) (v := .ref (ad (w + 1))) C hM (qmem_9 E ad S29 A57 b kw) (by omega) rfl hi9 (by decide) hL2 rfl rfl dX9_blow_115 ?_
                refine lv_iload hx hb dX9_blow_118 (lv_at hl 2 rfl) ?_
                refine lv_sipush (v := 9999) hx hb dX9_blow_120 (by decide) ?_
                refine lv_aload_n hx hb dX9_blow_123 rfl (lv_at hl 7 rfl) ?_
                refine q_get (o := w) (ci := 9) (k := 0) (T := TX9) (v := .ref (ad (w + 1))) C hM (qmem_9 E ad S29 A57 b kw) (by omega) rfl hi9 (by decide) hL2 rfl rfl dX9_blow_124 ?_
                refine lv_iload hx hb dX9_blow_127 (lv_at hl 2 rfl) ?_
                refine q_iald (v := A57 (w + 1) k) C hM kw1 (by rw [lw1]; exact vp_nI (by omega) (by omega)) (by rw [nIc (by omega)]) dX9_blow_129 ?_
                refine lv_iload hx hb dX9_blow_130 (lv_at hl 0 rfl) ?_
                refine lv_iadd hx hb dX9_blow_132 ?_
                refine va_mmin hx hb (C.2.2.1.trans hl.1.symm) C.2.2.2.1 hL3 hL4 hL5 hL6 (Nat.le_of_ble_eq_true rfl) (Nat.le_of_ble_eq_true rfl) (Nat.zero_le _) (Nat.zero_le _) dX9_blow_133 ?_
                refine lv_topi (fun v_6 ev_6 => ?_)
                refine q_iast C hM kw1 (by rw [lw1]; exact vp_nI (by omega) (by omega)) dX9_blow_136 (fun H locs hM => ?_)
                rw [nIc (by omega)] at hM
                obtain ⟨A_7, eA_7⟩ : ∃ zz, zz = q2 A57 (w + 1) k v_6 := ⟨_, rfl⟩
                rw [← eA_7] at hM
                refine lv_iload hx hb dX9_blow_137 (lv_at hl 1 rfl) ?_
                refine lv_iload hx hb dX9_blow_139 (lv_at hl 0 rfl) ?_
                refine lv_isub hx hb dX9_blow_141 ?_
                refine lv_topi (fun x7_8 ex7_8 => ?_)
                refine lv_istore (lv' := [(7, .int x7_8), (11, .int x11_5), (10, .int x10_4), (9, .int (nI k)), (8, .int (nI k)), (6, .int ke), (5, .int x5_1), (0, .ref (ad w)), (1, .ref (ad p)), (2, .int a2), (3, .int a3), (4, .int a4)]) hx hb dX9_blow_142 hl (by decide) rfl (fun ls hl => ?_)
                refine lv_iinc (v := nI (k + 1)) (lv' := [(8, .int (nI (k + 1))), (7, .int x7_8), (11, .int x11_5), (10, .int x10_4), (9, .int (nI k)), (6, .int ke), (5, .int x5_1), (0, .ref (ad w)), (1, .ref (ad p)), (2, .int a2), (3, .int a3), (4, .int a4)]) hx hb dX9_blow_144 hl (k := 4) rfl (by rw [nI_succ]; rfl) (by decide) rfl (fun ls hl => ?_)
                refine lv_goto (tgt := 57) hx hb dX9_blow_147 (by decide) ?_
                exact ih57 x7_8 (k + 1) A_7 (by omega) (by rw [ex5_1] at c_68; simp only [qbl, ← hr]; rw [if_neg (Int32.not_lt.mpr c_68), if_neg (show ¬ ¬ qtb ke (nI k) = 0 from Classical.not_not.mpr c_100), eA_7, q2_row, ev_6, ex7_8, ex11_5, ex10_4]; rfl) (by rw [eA_7]; exact qfr_up hf) (by omega) _ _ _ hM (lv_sub hl [0, 1, 5, 6, 7, 8, 9, 10, 11] rfl)
              · skip
                refine lv_iload hx hb dX9_blow_103 (lv_at hl 0 rfl) ?_
                refine lv_goto (tgt := 112) hx hb dX9_blow_105 (by decide) ?_
                refine lv_istore (lv' := [(11, .int x10_4), (10, .int x10_4), (9, .int (nI k)), (8, .int (nI k)), (7, .int bl), (6, .int ke), (5, .int x5_1), (0, .ref (ad w)), (1, .ref (ad p)), (2, .int a2), (3, .int a3), (4, .int a4)]) hx hb dX9_blow_112 hl (by decide) rfl (fun ls hl => ?_)
                refine lv_aload_n hx hb dX9_blow_114 rfl (lv_at hl 7 rfl) ?_
                refine q_get (o := w) (ci := 9) (k := 0) (T := TX9) (v := .ref (ad (w + 1))) C hM (qmem_9 E ad S29 A57 b kw) (by omega) rfl hi9 (by decide) hL2 rfl rfl dX9_blow_115 ?_
                refine lv_iload hx hb dX9_blow_118 (lv_at hl 2 rfl) ?_
                refine lv_sipush (v := 9999) hx hb dX9_blow_120 (by decide) ?_
                refine lv_aload_n hx hb dX9_blow_123 rfl (lv_at hl 7 rfl) ?_
                refine q_get (o := w) (ci := 9) (k := 0) (T := TX9) (v := .ref (ad (w + 1))) C hM (qmem_9 E ad S29 A57 b kw) (by omega) rfl hi9 (by decide) hL2 rfl rfl dX9_blow_124 ?_
                refine lv_iload hx hb dX9_blow_127 (lv_at hl 2 rfl) ?_
                refine q_iald (v := A57 (w + 1) k) C hM kw1 (by rw [lw1]; exact vp_nI (by omega) (by omega)) (by rw [nIc (by omega)]) dX9_blow_129 ?_
                refine lv_iload hx hb dX9_blow_130 (lv_at hl 0 rfl) ?_
                refine lv_iadd hx hb dX9_blow_132 ?_
                refine va_mmin hx hb (C.2.2.1.trans hl.1.symm) C.2.2.2.1 hL3 hL4 hL5 hL6 (Nat.le_of_ble_eq_true rfl) (Nat.le_of_ble_eq_true rfl) (Nat.zero_le _) (Nat.zero_le _) dX9_blow_133 ?_
                refine lv_topi (fun v_9 ev_9 => ?_)
                refine q_iast C hM kw1 (by rw [lw1]; exact vp_nI (by omega) (by omega)) dX9_blow_136 (fun H locs hM => ?_)
                rw [nIc (by omega)] at hM
                obtain ⟨A_10, eA_10⟩ : ∃ zz, zz = q2 A57 (w + 1) k v_9 := ⟨_, rfl⟩
                rw [← eA_10] at hM
                refine lv_iload hx hb dX9_blow_137 (lv_at hl 1 rfl) ?_
                refine lv_iload hx hb dX9_blow_139 (lv_at hl 0 rfl) ?_
                refine lv_isub hx hb dX9_blow_141 ?_
                refine lv_topi (fun x7_11 ex7_11 => ?_)
                refine lv_istore (lv' := [(7, .int x7_11), (11, .int x10_4), (10, .int x10_4), (9, .int (nI k)), (8, .int (nI k)), (6, .int ke), (5, .int x5_1), (0, .ref (ad w)), (1, .ref (ad p)), (2, .int a2), (3, .int a3), (4, .int a4)]) hx hb dX9_blow_142 hl (by decide) rfl (fun ls hl => ?_)
                refine lv_iinc (v := nI (k + 1)) (lv' := [(8, .int (nI (k + 1))), (7, .int x7_11), (11, .int x10_4), (10, .int x10_4), (9, .int (nI k)), (6, .int ke), (5, .int x5_1), (0, .ref (ad w)), (1, .ref (ad p)), (2, .int a2), (3, .int a3), (4, .int a4)]) hx hb dX9_blow_144 hl (k := 4) rfl (by rw [nI_succ]; rfl) (by decide) rfl (fun ls hl => ?_)
                refine lv_goto (tgt := 57) hx hb dX9_blow_147 (by decide) ?_
                exact ih57 x7_11 (k + 1) A_10 (by omega) (by rw [ex5_1] at c_68; simp only [qbl, ← hr]; rw [if_neg (Int32.not_lt.mpr c_68), if_pos (show ¬ qtb ke (nI k) = 0 from c_100), eA_10, q2_row, ev_9, ex7_11, ex10_4]; rfl) (by rw [eA_10]; exact qfr_up hf) (by omega) _ _ _ hM (lv_sub hl [0, 1, 5, 6, 7, 8, 9, 10, 11] rfl)
            · skip
              refine lv_aload_n hx hb dX9_blow_71 rfl (lv_at hl 5 rfl) ?_
              refine q_get (o := p) (ci := 5) (k := 0) (T := TX5) (v := .int (S p 0)) C hM (qmem_5 E ad S29 A57 b kp) (by omega) rfl hi5 (by decide) hL0 rfl (congrArg (fun z => some (Value.int z)) (show S29 p 0 = S p 0 from by rw [h29, q2_o _ _ (by omega)])) dX9_blow_72 ?_
              refine lv_as (y := nI nC) hC ?_
              refine lv_iconst (v := 1) hx hb dX9_blow_75 (by decide) ?_
              refine lv_isub hx hb dX9_blow_76 ?_
              refine lv_as (y := nI (nC - 1)) (pk_sub (a := nC) (b := 1) (by omega)) ?_
              refine lv_iload hx hb dX9_blow_77 (lv_at hl 0 rfl) ?_
              refine lv_isub hx hb dX9_blow_79 ?_
              refine lv_as (y := nI ((nC - 1) - k)) (pk_sub (a := nC - 1) (b := k) (by omega)) ?_
              refine lv_goto (tgt := 85) hx hb dX9_blow_80 (by decide) ?_
              refine lv_istore (lv' := [(9, .int (nI ((nC - 1) - k))), (8, .int (nI k)), (7, .int bl), (6, .int ke), (5, .int x5_1), (0, .ref (ad w)), (1, .ref (ad p)), (2, .int a2), (3, .int a3), (4, .int a4)]) hx hb dX9_blow_85 hl (by decide) rfl (fun ls hl => ?_)
              refine lv_iload_n hx hb dX9_blow_87 rfl (lv_at hl 8 rfl) ?_
              refine lv_iload hx hb dX9_blow_88 (lv_at hl 2 rfl) ?_
              refine lv_iadd hx hb dX9_blow_90 ?_
              refine lv_topi (fun x10_12 ex10_12 => ?_)
              refine lv_istore (lv' := [(10, .int x10_12), (9, .int (nI ((nC - 1) - k))), (8, .int (nI k)), (7, .int bl), (6, .int ke), (5, .int x5_1), (0, .ref (ad w)), (1, .ref (ad p)), (2, .int a2), (3, .int a3), (4, .int a4)]) hx hb dX9_blow_91 hl (by decide) rfl (fun ls hl => ?_)
              refine lv_iload hx hb dX9_blow_93 (lv_at hl 4 rfl) ?_
              refine lv_iload hx hb dX9_blow_95 (lv_at hl 1 rfl) ?_
              refine lv_ishr hx hb dX9_blow_97 ?_
              refine lv_iconst (v := 1) hx hb dX9_blow_98 (by decide) ?_
              refine lv_iand hx hb dX9_blow_99 ?_
              refine lv_if_eq (tgt := 108) hx hb dX9_blow_100 (by decide) (fun c_100 => ?_) (fun c_100 => ?_)
              · skip
                refine lv_iload hx hb dX9_blow_108 (lv_at hl 0 rfl) ?_
                refine lv_iconst (v := 2) hx hb dX9_blow_110 (by decide) ?_
                refine lv_idiv hx hb dX9_blow_111 (by decide) ?_
                refine lv_topi (fun x11_13 ex11_13 => ?_)
                refine lv_istore (lv' := [(11, .int x11_13), (10, .int x10_12), (9, .int (nI ((nC - 1) - k))), (8, .int (nI k)), (7, .int bl), (6, .int ke), (5, .int x5_1), (0, .ref (ad w)), (1, .ref (ad p)), (2, .int a2), (3, .int a3), (4, .int a4)]) hx hb dX9_blow_112 hl (by decide) rfl (fun ls hl => ?_)
                refine lv_aload_n hx hb dX9_blow_114 rfl (lv_at hl 7 rfl) ?_
                refine q_get (o := w) (ci := 9) (k := 0) (T := TX9) (v := .ref (ad (w + 1))) C hM (qmem_9 E ad S29 A57 b kw) (by omega) rfl hi9 (by decide) hL2 rfl rfl dX9_blow_115 ?_
                refine lv_iload hx hb dX9_blow_118 (lv_at hl 2 rfl) ?_
                refine lv_sipush (v := 9999) hx hb dX9_blow_120 (by decide) ?_
                refine lv_aload_n hx hb dX9_blow_123 rfl (lv_at hl 7 rfl) ?_
                refine q_get (o := w) (ci := 9) (k := 0) (T := TX9) (v := .ref (ad (w + 1))) C hM (qmem_9 E ad S29 A57 b kw) (by omega) rfl hi9 (by decide) hL2 rfl rfl dX9_blow_124 ?_
                refine lv_iload hx hb dX9_blow_127 (lv_at hl 2 rfl) ?_
                refine q_iald (v := A57 (w + 1) ((nC - 1) - k)) C hM kw1 (by rw [lw1]; exact vp_nI (by omega) (by omega)) (by rw [nIc (by omega)]) dX9_blow_129 ?_
                refine lv_iload hx hb dX9_blow_130 (lv_at hl 0 rfl) ?_
                refine lv_iadd hx hb dX9_blow_132 ?_
                refine va_mmin hx hb (C.2.2.1.trans hl.1.symm) C.2.2.2.1 hL3 hL4 hL5 hL6 (Nat.le_of_ble_eq_true rfl) (Nat.le_of_ble_eq_true rfl) (Nat.zero_le _) (Nat.zero_le _) dX9_blow_133 ?_
                refine lv_topi (fun v_14 ev_14 => ?_)
                refine q_iast C hM kw1 (by rw [lw1]; exact vp_nI (by omega) (by omega)) dX9_blow_136 (fun H locs hM => ?_)
                rw [nIc (by omega)] at hM
                obtain ⟨A_15, eA_15⟩ : ∃ zz, zz = q2 A57 (w + 1) ((nC - 1) - k) v_14 := ⟨_, rfl⟩
                rw [← eA_15] at hM
                refine lv_iload hx hb dX9_blow_137 (lv_at hl 1 rfl) ?_
                refine lv_iload hx hb dX9_blow_139 (lv_at hl 0 rfl) ?_
                refine lv_isub hx hb dX9_blow_141 ?_
                refine lv_topi (fun x7_16 ex7_16 => ?_)
                refine lv_istore (lv' := [(7, .int x7_16), (11, .int x11_13), (10, .int x10_12), (9, .int (nI ((nC - 1) - k))), (8, .int (nI k)), (6, .int ke), (5, .int x5_1), (0, .ref (ad w)), (1, .ref (ad p)), (2, .int a2), (3, .int a3), (4, .int a4)]) hx hb dX9_blow_142 hl (by decide) rfl (fun ls hl => ?_)
                refine lv_iinc (v := nI (k + 1)) (lv' := [(8, .int (nI (k + 1))), (7, .int x7_16), (11, .int x11_13), (10, .int x10_12), (9, .int (nI ((nC - 1) - k))), (6, .int ke), (5, .int x5_1), (0, .ref (ad w)), (1, .ref (ad p)), (2, .int a2), (3, .int a3), (4, .int a4)]) hx hb dX9_blow_144 hl (k := 4) rfl (by rw [nI_succ]; rfl) (by decide) rfl (fun ls hl => ?_)
                refine lv_goto (tgt := 57) hx hb dX9_blow_147 (by decide) ?_
                exact ih57 x7_16 (k + 1) A_15 (by omega) (by rw [ex5_1] at c_68; simp only [qbl, ← hr]; rw [if_pos (Int32.not_le.mp c_68), if_neg (show ¬ ¬ qtb ke (nI (nC - 1 - k)) = 0 from Classical.not_not.mpr c_100), eA_15, q2_row, ev_14, ex7_16, ex11_13, ex10_12]; rfl) (by rw [eA_15]; exact qfr_up hf) (by omega) _ _ _ hM (lv_sub hl [0, 1, 5, 6, 7, 8, 9, 10, 11] rfl)
              · skip
                refine lv_iload hx hb dX9_blow_103 (lv_at hl 0 rfl) ?_
                refine lv_goto (tgt := 112) hx hb dX9_blow_105 (by decide) ?_
                refine lv_istore (lv' := [(11, .int x10_12), (10, .int x10_12), (9, .int (nI ((nC - 1) - k))), (8, .int (nI k)), (7, .int bl), (6, .int ke), (5, .int x5_1), (0, .ref (ad w)), (1, .ref (ad p)), (2, .int a2), (3, .int a3), (4, .int a4)]) hx hb dX9_blow_112 hl (by decide) rfl (fun ls hl => ?_)
                refine lv_aload_n hx hb dX9_blow_114 rfl (lv_at hl 7 rfl) ?_
                refine q_get (o := w) (ci := 9) (k := 0) (T := TX9) (v := .ref (ad (w + 1))) C hM (qmem_9 E ad S29 A57 b kw) (by omega) rfl hi9 (by decide) hL2 rfl rfl dX9_blow_115 ?_
                refine lv_iload hx hb dX9_blow_118 (lv_at hl 2 rfl) ?_
                refine lv_sipush (v := 9999) hx hb dX9_blow_120 (by decide) ?_
                refine lv_aload_n hx hb dX9_blow_123 rfl (lv_at hl 7 rfl) ?_
                refine q_get (o := w) (ci := 9) (k := 0) (T := TX9) (v := .ref (ad (w + 1))) C hM (qmem_9 E ad S29 A57 b kw) (by omega) rfl hi9 (by decide) hL2 rfl rfl dX9_blow_124 ?_
                refine lv_iload hx hb dX9_blow_127 (lv_at hl 2 rfl) ?_
                refine q_iald (v := A57 (w + 1) ((nC - 1) - k)) C hM kw1 (by rw [lw1]; exact vp_nI (by omega) (by omega)) (by rw [nIc (by omega)]) dX9_blow_129 ?_
                refine lv_iload hx hb dX9_blow_130 (lv_at hl 0 rfl) ?_
                refine lv_iadd hx hb dX9_blow_132 ?_
                refine va_mmin hx hb (C.2.2.1.trans hl.1.symm) C.2.2.2.1 hL3 hL4 hL5 hL6 (Nat.le_of_ble_eq_true rfl) (Nat.le_of_ble_eq_true rfl) (Nat.zero_le _) (Nat.zero_le _) dX9_blow_133 ?_
                refine lv_topi (fun v_17 ev_17 => ?_)
                refine q_iast C hM kw1 (by rw [lw1]; exact vp_nI (by omega) (by omega)) dX9_blow_136 (fun H locs hM => ?_)
                rw [nIc (by omega)] at hM
                obtain ⟨A_18, eA_18⟩ : ∃ zz, zz = q2 A57 (w + 1) ((nC - 1) - k) v_17 := ⟨_, rfl⟩
                rw [← eA_18] at hM
                refine lv_iload hx hb dX9_blow_137 (lv_at hl 1 rfl) ?_
                refine lv_iload hx hb dX9_blow_139 (lv_at hl 0 rfl) ?_
                refine lv_isub hx hb dX9_blow_141 ?_
                refine lv_topi (fun x7_19 ex7_19 => ?_)
                refine lv_istore (lv' := [(7, .int x7_19), (11, .int x10_12), (10, .int x10_12), (9, .int (nI ((nC - 1) - k))), (8, .int (nI k)), (6, .int ke), (5, .int x5_1), (0, .ref (ad w)), (1, .ref (ad p)), (2, .int a2), (3, .int a3), (4, .int a4)]) hx hb dX9_blow_142 hl (by decide) rfl (fun ls hl => ?_)
                refine lv_iinc (v := nI (k + 1)) (lv' := [(8, .int (nI (k + 1))), (7, .int x7_19), (11, .int x10_12), (10, .int x10_12), (9, .int (nI ((nC - 1) - k))), (6, .int ke), (5, .int x5_1), (0, .ref (ad w)), (1, .ref (ad p)), (2, .int a2), (3, .int a3), (4, .int a4)]) hx hb dX9_blow_144 hl (k := 4) rfl (by rw [nI_succ]; rfl) (by decide) rfl (fun ls hl => ?_)
                refine lv_goto (tgt := 57) hx hb dX9_blow_147 (by decide) ?_
                exact ih57 x7_19 (k + 1) A_18 (by omega) (by rw [ex5_1] at c_68; simp only [qbl, ← hr]; rw [if_pos (Int32.not_le.mp c_68), if_pos (show ¬ qtb ke (nI (nC - 1 - k)) = 0 from c_100), eA_18, q2_row, ev_17, ex7_19, ex10_12]; rfl) (by rw [eA_18]; exact qfr_up hf) (by omega) _ _ _ hM (lv_sub hl [0, 1, 5, 6, 7, 8, 9, 10, 11] rfl)
      exact loop57 (nC - 0 + 1) 0 0 A (by omega) rfl (fun _ _ => rfl) (Nat.lt_succ_self _) _ _ _ hM hl
    refine lv_iload hx hb dX9_blow_29 (lv_at hl 0 rfl) ?_
    refine lv_if_ne (tgt := 41) hx hb dX9_blow_31 (by decide) (fun c_31 => ?_) (fun c_31 => ?_)
    · skip
      refine lv_aload_n hx hb dX9_blow_41 rfl (lv_at hl 1 rfl) ?_
      refine lv_aload_n hx hb dX9_blow_42 rfl (lv_at hl 2 rfl) ?_
      refine q_get (o := p) (ci := 5) (k := 4) (T := TX5) (v := .int (S p 4)) C hM (qmem_5 E ad S29 A b kp) (by omega) rfl hi5 (by decide) hL7 rfl (congrArg (fun z => some (Value.int z)) (show S29 p 4 = S p 4 from by rw [h29, q2_o _ _ (by omega)])) dX9_blow_43 ?_
      refine lv_as (y := nI nP) hPo ?_
      refine q_callVI (n := 1) (o := w) (As := [.int (nI nP)]) (rest := []) C hM hA (c_X9_fencedCells E ad l S29 A b w hw nP (by omega)) (qmem_9 E ad S29 A b kw) (by omega) rfl gX9_blow_X9_fencedCells rfl rfl rfl (by decide +kernel) ⟨Nat.le_of_ble_eq_true rfl, Nat.le_of_ble_eq_true rfl⟩ rfl hl.1 rfl (Nat.le_of_ble_eq_true rfl) ⟨Nat.zero_le _, Nat.zero_le _⟩ dX9_blow_46 (fun r_20 S_21 A_22 b_23 H locs qr_20 hM => ?_)
      obtain ⟨⟨e1, e2, e3⟩, er_20⟩ := qr_20
      subst e1; subst e2; subst e3
      exact join49 r_20 (by rw [ex5_1] at c_31; rw [er_20, h29, q2_s, qkeep, if_neg c_31]) _ _ _ hM hl
    · skip
      refine lv_aload_n hx hb dX9_blow_34 rfl (lv_at hl 2 rfl) ?_
      refine q_callVI (n := 0) (o := p) (As := []) (rest := []) C hM hA (c_X5_allCells E ad l S29 A b p hp nC ((show S29 p 0 = S p 0 from by rw [h29, q2_o _ _ (by omega)]).trans hC) (by omega)) (qmem_5 E ad S29 A b kp) (by omega) rfl gX9_blow_X5_allCells rfl rfl rfl (by decide +kernel) ⟨Nat.le_of_ble_eq_true rfl, Nat.le_of_ble_eq_true rfl⟩ rfl hl.1 rfl (Nat.le_of_ble_eq_true rfl) ⟨Nat.zero_le _, Nat.zero_le _⟩ dX9_blow_35 (fun r_24 S_25 A_26 b_27 H locs qr_24 hM => ?_)
      obtain ⟨⟨e1, e2, e3⟩, er_24⟩ := qr_24
      subst e1; subst e2; subst e3
      refine lv_goto (tgt := 49) hx hb dX9_blow_38 (by decide) ?_
      exact join49 r_24 (by rw [ex5_1] at c_31; rw [er_24, qkeep, if_pos c_31]) _ _ _ hM hl
  refine lv_iload hx hb dX9_blow_6 (lv_at hl 0 rfl) ?_
  refine va_mabs hx hb (C.2.2.1.trans hl.1.symm) C.2.2.2.1 hL8 hL9 hL5 hL10 (Nat.le_of_ble_eq_true rfl) (Nat.le_of_ble_eq_true rfl) (Nat.zero_le _) (Nat.zero_le _) dX9_blow_8 ?_
  refine lv_aload_n hx hb dX9_blow_11 rfl (lv_at hl 2 rfl) ?_
  refine q_get (o := p) (ci := 5) (k := 1) (T := TX5) (v := .int (S p 1)) C hM (qmem_5 E ad S A b kp) (by omega) rfl hi5 (by decide) hL11 rfl rfl dX9_blow_12 ?_
  refine lv_icmp_le (tgt := 29) hx hb dX9_blow_15 (by decide) (fun c_15 => ?_) (fun c_15 => ?_)
  · skip
    exact join29 S (by rw [ex5_1] at c_15; rw [qhst, if_pos (show qabs (a2 - 9) ≤ S p 1 from c_15), q2_self]) _ _ _ hM hl
  · skip
    refine lv_aload_n hx hb dX9_blow_18 rfl (lv_at hl 1 rfl) ?_
    refine lv_dup hx hb dX9_blow_19 rfl ?_
    refine q_get (o := w) (ci := 9) (k := 5) (T := TX9) (v := .int (S w 5)) C hM (qmem_9 E ad S A b kw) (by omega) rfl hi9 (by decide) hL12 rfl rfl dX9_blow_20 ?_
    refine lv_iload hx hb dX9_blow_23 (lv_at hl 5 rfl) ?_
    refine lv_iand hx hb dX9_blow_25 ?_
    refine lv_topi (fun v_28 ev_28 => ?_)
    refine q_put (o := w) (ci := 9) (k := 5) (T := TX9) (ty := .int) (v := v_28) C hM (qmem_9 E ad S A b kw) (by omega) rfl hi9 tyX9 tyX9_ok nmX9 (by decide) hL12 rfl rfl (by decide +kernel) rfl rfl (Nat.le_of_ble_eq_true rfl) (qs_9_5 E ad S A b kw v_28) dX9_blow_26 (fun H locs hM => ?_)
    obtain ⟨S_29, eS_29⟩ : ∃ zz, zz = q2 S w 5 v_28 := ⟨_, rfl⟩
    rw [← eS_29] at hM
    exact join29 S_29 (by rw [ex5_1] at c_15; rw [eS_29, ev_28, qhst, if_neg (show ¬ qabs (a2 - 9) ≤ S p 1 from c_15)]) _ _ _ hM hl

set_option maxHeartbeats 4000000 in
set_option maxRecDepth 100000 in
theorem c_X9_passHours (E : qE) (ad : Nat → Nat) (l : Launch) (S A : qA2) (b : qB) (w : Nat) (hw : qw w) (p : Nat) (hp : qpl p) (n : Nat) (a3 : Int32) (nC : Nat) (hC : S p 0 = nI nC) (hCb : nC ≤ 12) (nP : Nat) (hPo : S p 4 = nI nP) (hPb : nP ≤ 6) (nW : Nat) (hWi : S p 6 = nI nW) (hWb : nW ≤ 10) (nH : Nat) (hH : S w 6 = nI nH) (hHb : nH ≤ 100000) (hn60 : n ≤ 100) : MV E ad l yX9_passHours wsX9_passHours { frames := 2, cells := 0, slots := 0, locals := 54 } [.ref (ad w), .ref (ad p), .int (nI n), .int a3] S A b (fun S' A' b' => b = b' ∧ (A' (w + 1), S' w 5, S' w 6) = qpass nC nP nW (S p 1) (A (w + 2)) (A (p + 5)) (A (p + 6)) a3 (A (w + 1), S w 5, S w 6) n ∧ (∀ i, i ≠ w + 1 → A' i = A i) ∧ (∀ i j, (i ≠ w ∨ (j ≠ 5 ∧ j ≠ 6)) → S' i j = S i j)) := by
  obtain ⟨⟨kw, kw1, kw2, kw3, kw4, kw5⟩, ⟨lw1, lw2, lw3, lw4, lw5⟩, bw, bw6⟩ := qw_all hw
  obtain ⟨⟨kp, kp1, kp2, kp3, kp4, kp5, kp6⟩, ⟨lp1, lp2, lp3, lp4, lp5, lp6⟩, bp, bp7⟩ := qpl_all hp
  refine MV.of (cc := cX9_passHours) (maxL := 6) (ret := none) RX9 rfl (by decide) rfl ?_
  intro pg e s m below meth cd C hM
  have hx := C.1
  have hb := C.2.1
  have hts := C.2.2.2.2.1
  have hA : ∀ q, s.heap.size ≤ q → qAr ad s.heap.size q := fun _ h => Or.inr h
  have hi5 : ∀ w ∈ u_ws RX5 TX5 13, w ∈ wsX9_passHours := by decide +kernel
  have hi9 : ∀ w ∈ u_ws RX9 TX9 8, w ∈ wsX9_passHours := by decide +kernel
  have hL0 := hts (.fieldLink RX9 87 "CrowFences$Plan" "winds" "I") (by decide +kernel)
  have hL1 := hts (.fieldLink RX9 39 "CrowFences$Winter" "hours" "I") (by decide +kernel)
  have hL2 := hts (.fieldLink RX9 94 "CrowFences$Plan" "strong" "[I") (by decide +kernel)
  have hL3 := hts (.fieldLink RX9 97 "CrowFences$Plan" "fall" "[I") (by decide +kernel)
  have hl := lv_entry ([.ref (ad w), .ref (ad p), .int (nI n), .int a3]) (n := 6) (Nat.le_of_ble_eq_true rfl)
  rw [lg_entry_eq]
  generalize (lg_sl ([.ref (ad w), .ref (ad p), .int (nI n), .int a3]) ++ List.replicate (6 - (lg_sl ([.ref (ad w), .ref (ad p), .int (nI n), .int a3])).length) Slot.unset).toArray = ls at hl ⊢
  have hl : lv_has ls 6 [(0, .ref (ad w)), (1, .ref (ad p)), (2, .int (nI n)), (3, .int a3)] := hl
  refine lv_iconst (v := 0) hx hb dX9_passHours_0 (by decide) ?_
  refine lv_istore (lv' := [(4, .int 0), (0, .ref (ad w)), (1, .ref (ad p)), (2, .int (nI n)), (3, .int a3)]) hx hb dX9_passHours_1 hl (by decide) rfl (fun ls hl => ?_)
  have loop3 : ∀ (fu : Nat) (k : Nat) (S3 : qA2) (A3 : qA2) (hk : k ≤ n) (ht : (A3 (w + 1), S3 w 5, S3 w 6) = qpass nC nP nW (S p 1) (A (w + 2)) (A (p + 5)) (A (p + 6)) a3 (A (w + 1), S w 5, S w 6) k) (hfA : ∀ i, i ≠ w + 1 → A3 i = A i) (hfS : ∀ i j, (i ≠ w ∨ (j ≠ 5 ∧ j ≠ 6)) → S3 i j = S i j) (hh : S3 w 6 = nI (nH + k)), n - k < fu → ∀ (H : Heap) (locs : List Loc) (ls : Array Slot), qM E ad S3 A3 b (qAr ad s.heap.size) s H locs → lv_has ls 6 [(4, .int (nI k)), (0, .ref (ad w)), (1, .ref (ad p)), (2, .int (nI n)), (3, .int a3)] → W pg l e (headSpec wsX9_passHours { frames := 2, cells := 0, slots := 0, locals := 54 }).room s m ([.ref (ad w), .ref (ad p), .int (nI n), .int a3] : List Value).toArray below meth cd H locs 0 0 (MQ below (qQv E ad s.heap.size (fun S' A' b' => b = b' ∧ (A' (w + 1), S' w 5, S' w 6) = qpass nC nP nW (S p 1) (A (w + 2)) (A (p + 5)) (A (p + 6)) a3 (A (w + 1), S w 5, S w 6) n ∧ (∀ i, i ≠ w + 1 → A' i = A i) ∧ (∀ i j, (i ≠ w ∨ (j ≠ 5 ∧ j ≠ 6)) → S' i j = S i j))) ([.ref (ad w), .ref (ad p), .int (nI n), .int a3] : List Value).toArray s 0 0 (qAr ad s.heap.size)) (F0 m 3 ls []) := by
    intro fu
    induction fu with
    | zero => intro k S3 A3 hk ht hfA hfS hh hn; exact absurd hn (Nat.not_lt_zero _)
    | succ fu ih3 =>
      intro k S3 A3 hk ht hfA hfS hh hn H locs ls hM hl
      refine lv_iload hx hb dX9_passHours_3 (lv_at hl 0 rfl) ?_
      refine lv_iload_n hx hb dX9_passHours_5 rfl (lv_at hl 3 rfl) ?_
      refine lv_icmp_ge (tgt := 65) hx hb dX9_passHours_6 (by decide) (fun c_6 => ?_) (fun c_6 => ?_)
      · skip
        have c_6 : n ≤ k := (nI_leI (a := n) (b := k) (by omega) (by omega)).mp c_6
        exact q_vret C hM dX9_passHours_65 (by exact ⟨rfl, by rw [ht, show k = n by omega], hfA, hfS⟩)
      · skip
        have c_6 : ¬ (n ≤ k) := fun z => c_6 ((nI_leI (a := n) (b := k) (by omega) (by omega)).mpr z)
        refine lv_aload_n hx hb dX9_passHours_9 rfl (lv_at hl 2 rfl) ?_
        refine q_get (o := p) (ci := 5) (k := 6) (T := TX5) (v := .int (S p 6)) C hM (qmem_5 E ad S3 A3 b kp) (by omega) rfl hi5 (by decide) hL0 rfl (congrArg (fun z => some (Value.int z)) (show S3 p 6 = S p 6 from by rw [hfS p 6 (by omega)])) dX9_passHours_10 ?_
        refine lv_as (y := nI nW) hWi ?_
        refine lv_if_ne (tgt := 28) hx hb dX9_passHours_13 (by decide) (fun c_13 => ?_) (fun c_13 => ?_)
        · skip
          have c_13 : ¬ (nW = 0) := fun z => c_13 ((nI_eq (a := nW) (b := 0) (by omega) (by omega)).mpr z)
          refine lv_aload_n hx hb dX9_passHours_28 rfl (lv_at hl 1 rfl) ?_
          refine q_get (o := w) (ci := 9) (k := 6) (T := TX9) (v := .int (S3 w 6)) C hM (qmem_9 E ad S3 A3 b kw) (by omega) rfl hi9 (by decide) hL1 rfl rfl dX9_passHours_29 ?_
          refine lv_as (y := nI (nH + k)) hh ?_
          refine lv_aload_n hx hb dX9_passHours_32 rfl (lv_at hl 2 rfl) ?_
          refine q_get (o := p) (ci := 5) (k := 6) (T := TX5) (v := .int (S p 6)) C hM (qmem_5 E ad S3 A3 b kp) (by omega) rfl hi5 (by decide) hL0 rfl (congrArg (fun z => some (Value.int z)) (show S3 p 6 = S p 6 from by rw [hfS p 6 (by omega)])) dX9_passHours_33 ?_
          refine lv_as (y := nI nW) hWi ?_
          refine lv_irem hx hb dX9_passHours_36 (nI_ne0 (by omega) (by omega)) ?_
          have hm : (nH + k) % nW < nW := Nat.mod_lt _ (by omega)
          refine lv_as (y := nI ((nH + k) % nW)) (pk_rem (by omega) (by omega) (by omega)) ?_
          refine lv_istore (lv' := [(5, .int (nI ((nH + k) % nW))), (4, .int (nI k)), (0, .ref (ad w)), (1, .ref (ad p)), (2, .int (nI n)), (3, .int a3)]) hx hb dX9_passHours_37 hl (by decide) rfl (fun ls hl => ?_)
          refine lv_aload_n hx hb dX9_passHours_39 rfl (lv_at hl 2 rfl) ?_
          refine lv_aload_n hx hb dX9_passHours_40 rfl (lv_at hl 3 rfl) ?_
          refine lv_aload_n hx hb dX9_passHours_41 rfl (lv_at hl 3 rfl) ?_
          refine q_get (o := p) (ci := 5) (k := 11) (T := TX5) (v := .ref (ad (p + 5))) C hM (qmem_5 E ad S3 A3 b kp) (by omega) rfl hi5 (by decide) hL2 rfl rfl dX9_passHours_42 ?_
          refine lv_iload hx hb dX9_passHours_45 (lv_at hl 0 rfl) ?_
          refine q_iald (v := A (p + 5) ((nH + k) % nW)) C hM kp5 (by rw [lp5]; exact vp_nI (by omega) (by omega)) (by rw [nIc (by omega)]; exact (show A3 (p + 5) ((nH + k) % nW) = A (p + 5) ((nH + k) % nW) from by rw [hfA (p + 5) (by omega)])) dX9_passHours_47 ?_
          refine lv_aload_n hx hb dX9_passHours_48 rfl (lv_at hl 3 rfl) ?_
          refine q_get (o := p) (ci := 5) (k := 12) (T := TX5) (v := .ref (ad (p + 6))) C hM (qmem_5 E ad S3 A3 b kp) (by omega) rfl hi5 (by decide) hL3 rfl rfl dX9_passHours_49 ?_
          refine lv_iload hx hb dX9_passHours_52 (lv_at hl 0 rfl) ?_
          refine q_iald (v := A (p + 6) ((nH + k) % nW)) C hM kp6 (by rw [lp6]; exact vp_nI (by omega) (by omega)) (by rw [nIc (by omega)]; exact (show A3 (p + 6) ((nH + k) % nW) = A (p + 6) ((nH + k) % nW) from by rw [hfA (p + 6) (by omega)])) dX9_passHours_54 ?_
          refine lv_iload_n hx hb dX9_passHours_55 rfl (lv_at hl 5 rfl) ?_
          refine q_callVV (n := 4) (o := w) (As := [.ref (ad p), .int (A (p + 5) ((nH + k) % nW)), .int (A (p + 6) ((nH + k) % nW)), .int a3]) (rest := []) C hM hA (c_X9_blow E ad l S3 A3 b w hw p hp (A (p + 5) ((nH + k) % nW)) (A (p + 6) ((nH + k) % nW)) a3 nC ((show S3 p 0 = S p 0 from by rw [hfS p 0 (by omega)]).trans hC) (by omega) nP ((show S3 p 4 = S p 4 from by rw [hfS p 4 (by omega)]).trans hPo) (by omega)) (qmem_9 E ad S3 A3 b kw) (by omega) rfl gX9_passHours_X9_blow rfl rfl rfl (by decide +kernel) ⟨Nat.le_of_ble_eq_true rfl, Nat.le_of_ble_eq_true rfl⟩ rfl hl.1 rfl (Nat.le_of_ble_eq_true rfl) ⟨Nat.zero_le _, Nat.zero_le _⟩ dX9_passHours_56 (fun S_2 A_3 b_4 H locs qr_1 hM => ?_)
          obtain ⟨t_5, et_5⟩ : ∃ zz, zz = qhour nC nP (S3 p 1) (A3 (w + 2)) (A (p + 5) ((nH + k) % nW)) (A (p + 6) ((nH + k) % nW)) a3 (A3 (w + 1), S3 w 5, S3 w 6) := ⟨_, rfl⟩
          rw [← et_5] at qr_1
          obtain ⟨e3, eS_2, hrA_3, hfA_3⟩ := qr_1
          subst e3
          obtain ⟨S_6, eS_6⟩ : ∃ zz, zz = q2 S3 w 5 t_5.2.1 := ⟨_, rfl⟩
          rw [← eS_6] at eS_2
          refine lv_iinc (v := nI (k + 1)) (lv' := [(4, .int (nI (k + 1))), (5, .int (nI ((nH + k) % nW))), (0, .ref (ad w)), (1, .ref (ad p)), (2, .int (nI n)), (3, .int a3)]) hx hb dX9_passHours_59 hl (k := 1) rfl (by rw [nI_succ]; rfl) (by decide) rfl (fun ls hl => ?_)
          refine lv_goto (tgt := 3) hx hb dX9_passHours_62 (by decide) ?_
          exact ih3 (k + 1) S_2 A_3 (by omega) (by rw [show S_2 w 5 = t_5.2.1 from by rw [eS_2, q2_k _ _ (by omega), eS_6, q2_s], show S_2 w 6 = t_5.2.2 from by rw [eS_2, q2_s], hrA_3]; show t_5 = _; rw [et_5]; simp only [qpass, ← ht, qwind]; rw [if_neg c_13, hfS p 1 (by omega), hfA (w + 2) (by omega), hh, pk_rem (by omega) (by omega) (by omega), nIc (by omega)]) (fun i hi => (hfA_3 i hi).trans (hfA i hi)) (fun i j hij => by rw [eS_2, show q2 _ w 6 _ i j = S_6 i j from by by_cases hz : i = w; exact q2_k _ _ (by omega); exact q2_o _ _ hz, eS_6, show q2 _ w 5 _ i j = S3 i j from by by_cases hz : i = w; exact q2_k _ _ (by omega); exact q2_o _ _ hz]; exact hfS i j hij) (by rw [eS_2, q2_s, et_5]; show S3 w 6 + 1 = _; rw [hh]; exact (nI_succ _).symm) (by omega) _ _ _ hM (lv_sub hl [0, 2, 3, 4, 5] rfl)
        · skip
          have c_13 : nW = 0 := (nI_eq (a := nW) (b := 0) (by omega) (by omega)).mp c_13
          refine lv_aload_n hx hb dX9_passHours_16 rfl (lv_at hl 1 rfl) ?_
          refine lv_aload_n hx hb dX9_passHours_17 rfl (lv_at hl 2 rfl) ?_
          refine lv_bipush (v := 9) hx hb dX9_passHours_18 (by decide) ?_
          refine lv_iconst (v := 0) hx hb dX9_passHours_20 (by decide) ?_
          refine lv_iload_n hx hb dX9_passHours_21 rfl (lv_at hl 4 rfl) ?_
          refine q_callVV (n := 4) (o := w) (As := [.ref (ad p), .int 9, .int 0, .int a3]) (rest := []) C hM hA (c_X9_blow E ad l S3 A3 b w hw p hp 9 0 a3 nC ((show S3 p 0 = S p 0 from by rw [hfS p 0 (by omega)]).trans hC) (by omega) nP ((show S3 p 4 = S p 4 from by rw [hfS p 4 (by omega)]).trans hPo) (by omega)) (qmem_9 E ad S3 A3 b kw) (by omega) rfl gX9_passHours_X9_blow rfl rfl rfl (by decide +kernel) ⟨Nat.le_of_ble_eq_true rfl, Nat.le_of_ble_eq_true rfl⟩ rfl hl.1 rfl (Nat.le_of_ble_eq_true rfl) ⟨Nat.zero_le _, Nat.zero_le _⟩ dX9_passHours_22 (fun S_8 A_9 b_10 H locs qr_7 hM => ?_)
          obtain ⟨t_11, et_11⟩ : ∃ zz, zz = qhour nC nP (S3 p 1) (A3 (w + 2)) 9 0 a3 (A3 (w + 1), S3 w 5, S3 w 6) := ⟨_, rfl⟩
          rw [← et_11] at qr_7
          obtain ⟨e3, eS_8, hrA_9, hfA_9⟩ := qr_7
          subst e3
          obtain ⟨S_12, eS_12⟩ : ∃ zz, zz = q2 S3 w 5 t_11.2.1 := ⟨_, rfl⟩
          rw [← eS_12] at eS_8
          refine lv_goto (tgt := 59) hx hb dX9_passHours_25 (by decide) ?_
          refine lv_iinc (v := nI (k + 1)) (lv' := [(4, .int (nI (k + 1))), (0, .ref (ad w)), (1, .ref (ad p)), (2, .int (nI n)), (3, .int a3)]) hx hb dX9_passHours_59 hl (k := 0) rfl (by rw [nI_succ]; rfl) (by decide) rfl (fun ls hl => ?_)
          refine lv_goto (tgt := 3) hx hb dX9_passHours_62 (by decide) ?_
          exact ih3 (k + 1) S_8 A_9 (by omega) (by rw [show S_8 w 5 = t_11.2.1 from by rw [eS_8, q2_k _ _ (by omega), eS_12, q2_s], show S_8 w 6 = t_11.2.2 from by rw [eS_8, q2_s], hrA_9]; show t_11 = _; rw [et_11]; simp only [qpass, ← ht, qwind]; rw [if_pos c_13, hfS p 1 (by omega), hfA (w + 2) (by omega)]) (fun i hi => (hfA_9 i hi).trans (hfA i hi)) (fun i j hij => by rw [eS_8, show q2 _ w 6 _ i j = S_12 i j from by by_cases hz : i = w; exact q2_k _ _ (by omega); exact q2_o _ _ hz, eS_12, show q2 _ w 5 _ i j = S3 i j from by by_cases hz : i = w; exact q2_k _ _ (by omega); exact q2_o _ _ hz]; exact hfS i j hij) (by rw [eS_8, q2_s, et_11]; show S3 w 6 + 1 = _; rw [hh]; exact (nI_succ _).symm) (by omega) _ _ _ hM hl
  exact loop3 (n - 0 + 1) 0 S A (by omega) rfl (fun _ _ => rfl) (fun _ _ _ => rfl) hH (Nat.lt_succ_self _) _ _ _ hM hl
