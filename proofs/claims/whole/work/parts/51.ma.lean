set_option maxHeartbeats 4000000 in
set_option maxRecDepth 100000 in
theorem c_X11_in (E : qE) (ad : Nat → Nat) (l : Launch) (S A : qA2) (b : qB) (a0 a1 a2 : Int64) : MI E ad l yX11_in wsX11_in { frames := 0, cells := 0, slots := 0, locals := 0 } [.long a0, .long a1, .long a2] S A b (fun r S' A' b' => (S = S' ∧ A = A' ∧ b = b') ∧ r = q01 (a1 ≤ a0 ∧ a0 ≤ a2)) := by
  refine MI.of (cc := cX11_in) (maxL := 6) (ret := some .boolean) RX11 rfl (by decide) rfl ?_
  intro pg e s m below meth cd C hM
  have hx := C.1
  have hb := C.2.1
  have hts := C.2.2.2.2.1
  have hA : ∀ q, s.heap.size ≤ q → qAr ad s.heap.size q := fun _ h => Or.inr h
  have hl := lv_entry ([.long a0, .long a1, .long a2]) (n := 6) (Nat.le_of_ble_eq_true rfl)
  rw [lg_entry_eq]
  generalize (lg_sl ([.long a0, .long a1, .long a2]) ++ List.replicate (6 - (lg_sl ([.long a0, .long a1, .long a2])).length) Slot.unset).toArray = ls at hl ⊢
  have hl : lv_has ls 6 [(0, .long a0), (2, .long a1), (4, .long a2)] := hl
  refine lv_lload_n hx hb dX11_in_0 rfl (lv_at hl 0 rfl) ?_
  refine lv_lload_n hx hb dX11_in_1 rfl (lv_at hl 1 rfl) ?_
  refine W.lcmp hx hb dX11_in_2 ?_
  refine lv_if_lt (tgt := 17) hx hb dX11_in_3 (by decide) (fun c_3 => ?_) (fun c_3 => ?_)
  · skip
    refine lv_iconst (v := 0) hx hb dX11_in_17 (by decide) ?_
    exact q_zret C hM dX11_in_18 rfl (by exact ⟨⟨rfl, rfl, rfl⟩, (by rw [q01, if_neg (fun z => Int64.not_le.mpr ((lg_cmp_lt _ _).mp c_3) z.1)])⟩)
  · skip
    refine lv_lload_n hx hb dX11_in_6 rfl (lv_at hl 0 rfl) ?_
    refine lv_lload hx hb dX11_in_7 (lv_at hl 2 rfl) ?_
    refine W.lcmp hx hb dX11_in_9 ?_
    refine lv_if_gt (tgt := 17) hx hb dX11_in_10 (by decide) (fun c_10 => ?_) (fun c_10 => ?_)
    · skip
      refine lv_iconst (v := 0) hx hb dX11_in_17 (by decide) ?_
      exact q_zret C hM dX11_in_18 rfl (by exact ⟨⟨rfl, rfl, rfl⟩, (by rw [q01, if_neg (fun z => Int64.not_le.mpr ((lg_cmp_gt _ _).mp c_10) z.2)])⟩)
    · skip
      refine lv_iconst (v := 1) hx hb dX11_in_13 (by decide) ?_
      refine lv_goto (tgt := 18) hx hb dX11_in_14 (by decide) ?_
      exact q_zret C hM dX11_in_18 rfl (by exact ⟨⟨rfl, rfl, rfl⟩, (by rw [q01, if_pos ⟨Int64.not_lt.mp (fun z => c_3 ((lg_cmp_lt _ _).mpr z)), Int64.not_lt.mp (fun z => c_10 ((lg_cmp_gt _ _).mpr z))⟩])⟩)

set_option maxHeartbeats 4000000 in
set_option maxRecDepth 100000 in
theorem c_X11_has (E : qE) (ad : Nat → Nat) (l : Launch) (S A : qA2) (b : qB) (a0 a1 : Int32) : MI E ad l yX11_has wsX11_has { frames := 0, cells := 0, slots := 0, locals := 0 } [.int a0, .int a1] S A b (fun r S' A' b' => (S = S' ∧ A = A' ∧ b = b') ∧ r = q01 (¬ qtb a0 a1 = 0)) := by
  refine MI.of (cc := cX11_has) (maxL := 2) (ret := some .boolean) RX11 rfl (by decide) rfl ?_
  intro pg e s m below meth cd C hM
  have hx := C.1
  have hb := C.2.1
  have hts := C.2.2.2.2.1
  have hA : ∀ q, s.heap.size ≤ q → qAr ad s.heap.size q := fun _ h => Or.inr h
  have hl := lv_entry ([.int a0, .int a1]) (n := 2) (Nat.le_of_ble_eq_true rfl)
  rw [lg_entry_eq]
  generalize (lg_sl ([.int a0, .int a1]) ++ List.replicate (2 - (lg_sl ([.int a0, .int a1])).length) Slot.unset).toArray = ls at hl ⊢
  have hl : lv_has ls 2 [(0, .int a0), (1, .int a1)] := hl
  refine lv_iload_n hx hb dX11_has_0 rfl (lv_at hl 0 rfl) ?_
  refine lv_iload_n hx hb dX11_has_1 rfl (lv_at hl 1 rfl) ?_
  refine lv_ishr hx hb dX11_has_2 ?_
  refine lv_iconst (v := 1) hx hb dX11_has_3 (by decide) ?_
  refine lv_iand hx hb dX11_has_4 ?_
  refine lv_iconst (v := 1) hx hb dX11_has_5 (by decide) ?_
  refine lv_icmp_ne (tgt := 13) hx hb dX11_has_6 (by decide) (fun c_6 => ?_) (fun c_6 => ?_)
  · skip
    refine lv_iconst (v := 0) hx hb dX11_has_13 (by decide) ?_
    exact q_zret C hM dX11_has_14 rfl (by exact ⟨⟨rfl, rfl, rfl⟩, (by rw [q01, if_neg (fun z => c_6 (qtb_1.mpr z))])⟩)
  · skip
    refine lv_iconst (v := 1) hx hb dX11_has_9 (by decide) ?_
    refine lv_goto (tgt := 14) hx hb dX11_has_10 (by decide) ?_
    exact q_zret C hM dX11_has_14 rfl (by exact ⟨⟨rfl, rfl, rfl⟩, (by rw [q01, if_pos (qtb_1.mp c_6)])⟩)

set_option maxHeartbeats 4000000 in
set_option maxRecDepth 100000 in
theorem c_X11_bits (E : qE) (ad : Nat → Nat) (l : Launch) (S A : qA2) (b : qB) (a0 : Int32) : MI E ad l yX11_bits wsX11_bits { frames := 0, cells := 0, slots := 0, locals := 0 } [.int a0] S A b (fun r S' A' b' => (S = S' ∧ A = A' ∧ b = b') ∧ r = qsum (fun k => qtb a0 (nI k)) 6) := by
  refine MI.of (cc := cX11_bits) (maxL := 3) (ret := some .int) RX11 rfl (by decide) rfl ?_
  intro pg e s m below meth cd C hM
  have hx := C.1
  have hb := C.2.1
  have hts := C.2.2.2.2.1
  have hA : ∀ q, s.heap.size ≤ q → qAr ad s.heap.size q := fun _ h => Or.inr h
  have hl := lv_entry ([.int a0]) (n := 3) (Nat.le_of_ble_eq_true rfl)
  rw [lg_entry_eq]
  generalize (lg_sl ([.int a0]) ++ List.replicate (3 - (lg_sl ([.int a0])).length) Slot.unset).toArray = ls at hl ⊢
  have hl : lv_has ls 3 [(0, .int a0)] := hl
  refine lv_iconst (v := 0) hx hb dX11_bits_0 (by decide) ?_
  refine lv_istore_n (lv' := [(1, .int 0), (0, .int a0)]) hx hb dX11_bits_1 rfl hl (by decide) rfl (fun ls hl => ?_)
  refine lv_iconst (v := 0) hx hb dX11_bits_2 (by decide) ?_
  refine lv_istore_n (lv' := [(2, .int 0), (1, .int 0), (0, .int a0)]) hx hb dX11_bits_3 rfl hl (by decide) rfl (fun ls hl => ?_)
  have loop4 : ∀ (fu : Nat) (t : Int32) (k : Nat) (hk : k ≤ 6) (ht : t = qsum (fun k => qtb a0 (nI k)) k), 6 - k < fu → ∀ (H : Heap) (locs : List Loc) (ls : Array Slot), qM E ad S A b (qAr ad s.heap.size) s H locs → lv_has ls 3 [(2, .int (nI k)), (1, .int t), (0, .int a0)] → W pg l e (headSpec wsX11_bits { frames := 0, cells := 0, slots := 0, locals := 0 }).room s m ([.int a0] : List Value).toArray below meth cd H locs 0 0 (MQ below (qQi E ad s.heap.size (fun r S' A' b' => (S = S' ∧ A = A' ∧ b = b') ∧ r = qsum (fun k => qtb a0 (nI k)) 6)) ([.int a0] : List Value).toArray s 0 0 (qAr ad s.heap.size)) (F0 m 4 ls []) := by
    intro fu
    induction fu with
    | zero => intro t k hk ht hn; exact absurd hn (Nat.not_lt_zero _)
    | succ fu ih4 =>
      intro t k hk ht hn H locs ls hM hl
      refine lv_iload_n hx hb dX11_bits_4 rfl (lv_at hl 0 rfl) ?_
      refine lv_bipush (v := 6) hx hb dX11_bits_5 (by decide) ?_
      refine lv_icmp_ge (tgt := 24) hx hb dX11_bits_7 (by decide) (fun c_7 => ?_) (fun c_7 => ?_)
      · skip
        have c_7 : 6 ≤ k := (nI_leI (a := 6) (b := k) (by omega) (by omega)).mp c_7
        refine lv_iload_n hx hb dX11_bits_24 rfl (lv_at hl 1 rfl) ?_
        exact q_iret C hM dX11_bits_25 (by exact ⟨⟨rfl, rfl, rfl⟩, (by rw [ht, show k = 6 by omega])⟩)
      · skip
        have c_7 : ¬ (6 ≤ k) := fun z => c_7 ((nI_leI (a := 6) (b := k) (by omega) (by omega)).mpr z)
        refine lv_iload_n hx hb dX11_bits_10 rfl (lv_at hl 1 rfl) ?_
        refine lv_iload_n hx hb dX11_bits_11 rfl (lv_at hl 2 rfl) ?_
        refine lv_iload_n hx hb dX11_bits_12 rfl (lv_at hl 0 rfl) ?_
        refine lv_ishr hx hb dX11_bits_13 ?_
        refine lv_iconst (v := 1) hx hb dX11_bits_14 (by decide) ?_
        refine lv_iand hx hb dX11_bits_15 ?_
        refine lv_iadd hx hb dX11_bits_16 ?_
        refine lv_topi (fun x1_1 ex1_1 => ?_)
        refine lv_istore_n (lv' := [(1, .int x1_1), (2, .int (nI k)), (0, .int a0)]) hx hb dX11_bits_17 rfl hl (by decide) rfl (fun ls hl => ?_)
        refine lv_iinc (v := nI (k + 1)) (lv' := [(2, .int (nI (k + 1))), (1, .int x1_1), (0, .int a0)]) hx hb dX11_bits_18 hl (k := 1) rfl (by rw [nI_succ]; rfl) (by decide) rfl (fun ls hl => ?_)
        refine lv_goto (tgt := 4) hx hb dX11_bits_21 (by decide) ?_
        exact ih4 x1_1 (k + 1) (by omega) (by rw [ex1_1, ht]; rfl) (by omega) _ _ _ hM hl
  exact loop4 (6 - 0 + 1) 0 0 (by omega) rfl (Nat.lt_succ_self _) _ _ _ hM hl

set_option maxHeartbeats 4000000 in
set_option maxRecDepth 100000 in
theorem c_X11_atMost (E : qE) (ad : Nat → Nat) (l : Launch) (S A : qA2) (b : qB) (a0 a1 : Int32) : MI E ad l yX11_atMost wsX11_atMost { frames := 0, cells := 0, slots := 0, locals := 0 } [.int a0, .int a1] S A b (fun r S' A' b' => (S = S' ∧ A = A' ∧ b = b') ∧ r = if a0 < a1 then a0 else a1) := by
  refine MI.of (cc := cX11_atMost) (maxL := 2) (ret := some .int) RX11 rfl (by decide) rfl ?_
  intro pg e s m below meth cd C hM
  have hx := C.1
  have hb := C.2.1
  have hts := C.2.2.2.2.1
  have hA : ∀ q, s.heap.size ≤ q → qAr ad s.heap.size q := fun _ h => Or.inr h
  have hl := lv_entry ([.int a0, .int a1]) (n := 2) (Nat.le_of_ble_eq_true rfl)
  rw [lg_entry_eq]
  generalize (lg_sl ([.int a0, .int a1]) ++ List.replicate (2 - (lg_sl ([.int a0, .int a1])).length) Slot.unset).toArray = ls at hl ⊢
  have hl : lv_has ls 2 [(0, .int a0), (1, .int a1)] := hl
  refine lv_iload_n hx hb dX11_atMost_0 rfl (lv_at hl 0 rfl) ?_
  refine lv_iload_n hx hb dX11_atMost_1 rfl (lv_at hl 1 rfl) ?_
  refine lv_icmp_ge (tgt := 9) hx hb dX11_atMost_2 (by decide) (fun c_2 => ?_) (fun c_2 => ?_)
  · skip
    refine lv_iload_n hx hb dX11_atMost_9 rfl (lv_at hl 1 rfl) ?_
    exact q_iret C hM dX11_atMost_10 (by exact ⟨⟨rfl, rfl, rfl⟩, (by rw [if_neg (Int32.not_lt.mpr c_2)])⟩)
  · skip
    refine lv_iload_n hx hb dX11_atMost_5 rfl (lv_at hl 0 rfl) ?_
    refine lv_goto (tgt := 10) hx hb dX11_atMost_6 (by decide) ?_
    exact q_iret C hM dX11_atMost_10 (by exact ⟨⟨rfl, rfl, rfl⟩, (by rw [if_pos (Int32.not_le.mp c_2)])⟩)

set_option maxHeartbeats 4000000 in
set_option maxRecDepth 100000 in
theorem c_X11_isCell (E : qE) (ad : Nat → Nat) (l : Launch) (S A : qA2) (b : qB) (a1 : Int32) (nC : Nat) (hC : S 188 0 = nI nC) (hCb : nC ≤ 12) : MI E ad l yX11_isCell wsX11_isCell { frames := 1, cells := 0, slots := 0, locals := 25 } [.ref (ad 188), .int a1] S A b (fun r S' A' b' => (S = S' ∧ A = A' ∧ b = b') ∧ ((r = 1 ∧ ∃ k, k < nC ∧ a1 = nI k) ∨ (r = 0 ∧ ∀ k, k < nC → ¬ a1 = nI k))) := by
  refine MI.of (cc := cX11_isCell) (maxL := 2) (ret := some .boolean) RX11 rfl (by decide) rfl ?_
  intro pg e s m below meth cd C hM
  have hx := C.1
  have hb := C.2.1
  have hts := C.2.2.2.2.1
  have hA : ∀ q, s.heap.size ≤ q → qAr ad s.heap.size q := fun _ h => Or.inr h
  have hi11 : ∀ w ∈ u_ws RX11 TX11 45, w ∈ wsX11_isCell := by decide +kernel
  have hL0 := hts (.fieldLink RX11 90 "CrowFencesModel" "cells" "I") (by decide +kernel)
  have hl := lv_entry ([.ref (ad 188), .int a1]) (n := 2) (Nat.le_of_ble_eq_true rfl)
  rw [lg_entry_eq]
  generalize (lg_sl ([.ref (ad 188), .int a1]) ++ List.replicate (2 - (lg_sl ([.ref (ad 188), .int a1])).length) Slot.unset).toArray = ls at hl ⊢
  have hl : lv_has ls 2 [(0, .ref (ad 188)), (1, .int a1)] := hl
  refine lv_iload_n hx hb dX11_isCell_0 rfl (lv_at hl 1 rfl) ?_
  refine lv_i2l (v := (a1 : Int32).toInt64) hx hb dX11_isCell_1 rfl ?_
  refine lv_lconst (v := 0) hx hb dX11_isCell_2 rfl ?_
  refine lv_aload_n hx hb dX11_isCell_3 rfl (lv_at hl 0 rfl) ?_
  refine q_get (o := 188) (ci := 11) (k := 0) (T := TX11) (v := .int (S 188 0)) C hM (qmem_11 E ad S A b (show qk 188 = 11 from by decide +kernel)) (by decide) rfl hi11 (by decide) hL0 rfl rfl dX11_isCell_4 ?_
  refine lv_as (y := nI nC) hC ?_
  refine lv_iconst (v := 1) hx hb dX11_isCell_7 (by decide) ?_
  refine lv_isub hx hb dX11_isCell_8 ?_
  refine lv_i2l (v := ((nI nC) - 1 : Int32).toInt64) hx hb dX11_isCell_9 rfl ?_
  refine q_callSI (n := 3) (As := [.long ((a1 : Int32).toInt64), .long 0, .long (((nI nC) - 1 : Int32).toInt64)]) (rest := []) C hM hA (c_X11_in E ad l S A b ((a1 : Int32).toInt64) 0 (((nI nC) - 1 : Int32).toInt64)) gX11_isCell_X11_in rfl rfl rfl (by decide +kernel) ⟨Nat.le_of_ble_eq_true rfl, Nat.le_of_ble_eq_true rfl⟩ rfl hl.1 rfl (Nat.le_of_ble_eq_true rfl) ⟨Nat.zero_le _, Nat.zero_le _⟩ dX11_isCell_10 (fun r_1 S_2 A_3 b_4 H locs qr_1 hM => ?_)
  obtain ⟨⟨e1, e2, e3⟩, er_1⟩ := qr_1
  subst e1; subst e2; subst e3
  rw [q64 (x := a1) (lo := 0) (hi := (nI nC) - 1) (by first | rfl | decide) (by first | rfl | decide)] at er_1
  · skip
    exact q_zret C hM dX11_isCell_13 (by rw [er_1]; exact q01_nar _) (by rcases q01_cases (0 ≤ a1 ∧ a1 ≤ nI nC - 1) with ⟨hz, hi⟩ | ⟨hz, hi⟩; (exact ⟨⟨rfl, rfl, rfl⟩, Or.inl ⟨er_1.trans hz, qin_lt (by omega) hi⟩⟩); (exact ⟨⟨rfl, rfl, rfl⟩, Or.inr ⟨er_1.trans hz, fun k hk e => hi (by rw [e]; exact qin_lt' (by omega) hk)⟩⟩))

set_option maxHeartbeats 4000000 in
set_option maxRecDepth 100000 in
theorem c_X11_isPost (E : qE) (ad : Nat → Nat) (l : Launch) (S A : qA2) (b : qB) (a1 : Int32) (nP : Nat) (hPo : S 188 4 = nI nP) (hPb : nP ≤ 6) : MI E ad l yX11_isPost wsX11_isPost { frames := 1, cells := 0, slots := 0, locals := 25 } [.ref (ad 188), .int a1] S A b (fun r S' A' b' => (S = S' ∧ A = A' ∧ b = b') ∧ ((r = 1 ∧ ∃ k, k < nP ∧ a1 = nI k) ∨ (r = 0 ∧ ∀ k, k < nP → ¬ a1 = nI k))) := by
  refine MI.of (cc := cX11_isPost) (maxL := 2) (ret := some .boolean) RX11 rfl (by decide) rfl ?_
  intro pg e s m below meth cd C hM
  have hx := C.1
  have hb := C.2.1
  have hts := C.2.2.2.2.1
  have hA : ∀ q, s.heap.size ≤ q → qAr ad s.heap.size q := fun _ h => Or.inr h
  have hi11 : ∀ w ∈ u_ws RX11 TX11 45, w ∈ wsX11_isPost := by decide +kernel
  have hL0 := hts (.fieldLink RX11 97 "CrowFencesModel" "posts" "I") (by decide +kernel)
  have hl := lv_entry ([.ref (ad 188), .int a1]) (n := 2) (Nat.le_of_ble_eq_true rfl)
  rw [lg_entry_eq]
  generalize (lg_sl ([.ref (ad 188), .int a1]) ++ List.replicate (2 - (lg_sl ([.ref (ad 188), .int a1])).length) Slot.unset).toArray = ls at hl ⊢
  have hl : lv_has ls 2 [(0, .ref (ad 188)), (1, .int a1)] := hl
  refine lv_iload_n hx hb dX11_isPost_0 rfl (lv_at hl 1 rfl) ?_
  refine lv_i2l (v := (a1 : Int32).toInt64) hx hb dX11_isPost_1 rfl ?_
  refine lv_lconst (v := 0) hx hb dX11_isPost_2 rfl ?_
  refine lv_aload_n hx hb dX11_isPost_3 rfl (lv_at hl 0 rfl) ?_
  refine q_get (o := 188) (ci := 11) (k := 4) (T := TX11) (v := .int (S 188 4)) C hM (qmem_11 E ad S A b (show qk 188 = 11 from by decide +kernel)) (by decide) rfl hi11 (by decide) hL0 rfl rfl dX11_isPost_4 ?_
  refine lv_as (y := nI nP) hPo ?_
  refine lv_iconst (v := 1) hx hb dX11_isPost_7 (by decide) ?_
  refine lv_isub hx hb dX11_isPost_8 ?_
  refine lv_i2l (v := ((nI nP) - 1 : Int32).toInt64) hx hb dX11_isPost_9 rfl ?_
  refine q_callSI (n := 3) (As := [.long ((a1 : Int32).toInt64), .long 0, .long (((nI nP) - 1 : Int32).toInt64)]) (rest := []) C hM hA (c_X11_in E ad l S A b ((a1 : Int32).toInt64) 0 (((nI nP) - 1 : Int32).toInt64)) gX11_isPost_X11_in rfl rfl rfl (by decide +kernel) ⟨Nat.le_of_ble_eq_true rfl, Nat.le_of_ble_eq_true rfl⟩ rfl hl.1 rfl (Nat.le_of_ble_eq_true rfl) ⟨Nat.zero_le _, Nat.zero_le _⟩ dX11_isPost_10 (fun r_1 S_2 A_3 b_4 H locs qr_1 hM => ?_)
  obtain ⟨⟨e1, e2, e3⟩, er_1⟩ := qr_1
  subst e1; subst e2; subst e3
  rw [q64 (x := a1) (lo := 0) (hi := (nI nP) - 1) (by first | rfl | decide) (by first | rfl | decide)] at er_1
  · skip
    exact q_zret C hM dX11_isPost_13 (by rw [er_1]; exact q01_nar _) (by rcases q01_cases (0 ≤ a1 ∧ a1 ≤ nI nP - 1) with ⟨hz, hi⟩ | ⟨hz, hi⟩; (exact ⟨⟨rfl, rfl, rfl⟩, Or.inl ⟨er_1.trans hz, qin_lt (by omega) hi⟩⟩); (exact ⟨⟨rfl, rfl, rfl⟩, Or.inr ⟨er_1.trans hz, fun k hk e => hi (by rw [e]; exact qin_lt' (by omega) hk)⟩⟩))

set_option maxHeartbeats 4000000 in
set_option maxRecDepth 100000 in
theorem c_X11_isCrow (E : qE) (ad : Nat → Nat) (l : Launch) (S A : qA2) (b : qB) (a1 : Int32) (nK : Nat) (hK : S 188 6 = nI nK) (hKb : nK ≤ 5) : MI E ad l yX11_isCrow wsX11_isCrow { frames := 1, cells := 0, slots := 0, locals := 25 } [.ref (ad 188), .int a1] S A b (fun r S' A' b' => (S = S' ∧ A = A' ∧ b = b') ∧ ((r = 1 ∧ ∃ k, k < nK ∧ a1 = nI k) ∨ (r = 0 ∧ ∀ k, k < nK → ¬ a1 = nI k))) := by
  refine MI.of (cc := cX11_isCrow) (maxL := 2) (ret := some .boolean) RX11 rfl (by decide) rfl ?_
  intro pg e s m below meth cd C hM
  have hx := C.1
  have hb := C.2.1
  have hts := C.2.2.2.2.1
  have hA : ∀ q, s.heap.size ≤ q → qAr ad s.heap.size q := fun _ h => Or.inr h
  have hi11 : ∀ w ∈ u_ws RX11 TX11 45, w ∈ wsX11_isCrow := by decide +kernel
  have hL0 := hts (.fieldLink RX11 100 "CrowFencesModel" "crows" "I") (by decide +kernel)
  have hl := lv_entry ([.ref (ad 188), .int a1]) (n := 2) (Nat.le_of_ble_eq_true rfl)
  rw [lg_entry_eq]
  generalize (lg_sl ([.ref (ad 188), .int a1]) ++ List.replicate (2 - (lg_sl ([.ref (ad 188), .int a1])).length) Slot.unset).toArray = ls at hl ⊢
  have hl : lv_has ls 2 [(0, .ref (ad 188)), (1, .int a1)] := hl
  refine lv_iload_n hx hb dX11_isCrow_0 rfl (lv_at hl 1 rfl) ?_
  refine lv_i2l (v := (a1 : Int32).toInt64) hx hb dX11_isCrow_1 rfl ?_
  refine lv_lconst (v := 0) hx hb dX11_isCrow_2 rfl ?_
  refine lv_aload_n hx hb dX11_isCrow_3 rfl (lv_at hl 0 rfl) ?_
  refine q_get (o := 188) (ci := 11) (k := 6) (T := TX11) (v := .int (S 188 6)) C hM (qmem_11 E ad S A b (show qk 188 = 11 from by decide +kernel)) (by decide) rfl hi11 (by decide) hL0 rfl rfl dX11_isCrow_4 ?_
  refine lv_as (y := nI nK) hK ?_
  refine lv_iconst (v := 1) hx hb dX11_isCrow_7 (by decide) ?_
  refine lv_isub hx hb dX11_isCrow_8 ?_
  refine lv_i2l (v := ((nI nK) - 1 : Int32).toInt64) hx hb dX11_isCrow_9 rfl ?_
  refine q_callSI (n := 3) (As := [.long ((a1 : Int32).toInt64), .long 0, .long (((nI nK) - 1 : Int32).toInt64)]) (rest := []) C hM hA (c_X11_in E ad l S A b ((a1 : Int32).toInt64) 0 (((nI nK) - 1 : Int32).toInt64)) gX11_isCrow_X11_in rfl rfl rfl (by decide +kernel) ⟨Nat.le_of_ble_eq_true rfl, Nat.le_of_ble_eq_true rfl⟩ rfl hl.1 rfl (Nat.le_of_ble_eq_true rfl) ⟨Nat.zero_le _, Nat.zero_le _⟩ dX11_isCrow_10 (fun r_1 S_2 A_3 b_4 H locs qr_1 hM => ?_)
  obtain ⟨⟨e1, e2, e3⟩, er_1⟩ := qr_1
  subst e1; subst e2; subst e3
  rw [q64 (x := a1) (lo := 0) (hi := (nI nK) - 1) (by first | rfl | decide) (by first | rfl | decide)] at er_1
  · skip
    exact q_zret C hM dX11_isCrow_13 (by rw [er_1]; exact q01_nar _) (by rcases q01_cases (0 ≤ a1 ∧ a1 ≤ nI nK - 1) with ⟨hz, hi⟩ | ⟨hz, hi⟩; (exact ⟨⟨rfl, rfl, rfl⟩, Or.inl ⟨er_1.trans hz, qin_lt (by omega) hi⟩⟩); (exact ⟨⟨rfl, rfl, rfl⟩, Or.inr ⟨er_1.trans hz, fun k hk e => hi (by rw [e]; exact qin_lt' (by omega) hk)⟩⟩))

set_option maxHeartbeats 4000000 in
set_option maxRecDepth 100000 in
theorem c_X11_fails (E : qE) (ad : Nat → Nat) (l : Launch) (S A : qA2) (b : qB) (a1 a2 : Int32) : MI E ad l yX11_fails wsX11_fails { frames := 0, cells := 0, slots := 0, locals := 0 } [.ref (ad 188), .int a1, .int a2] S A b (fun r S' A' b' => (A = A' ∧ b = b') ∧ r = a1 ∧ S' = q2 S 188 15 a2) := by
  refine MI.of (cc := cX11_fails) (maxL := 3) (ret := some .int) RX11 rfl (by decide) rfl ?_
  intro pg e s m below meth cd C hM
  have hx := C.1
  have hb := C.2.1
  have hts := C.2.2.2.2.1
  have hA : ∀ q, s.heap.size ≤ q → qAr ad s.heap.size q := fun _ h => Or.inr h
  have hi11 : ∀ w ∈ u_ws RX11 TX11 45, w ∈ wsX11_fails := by decide +kernel
  have hL0 := hts (.fieldLink RX11 28 "CrowFencesModel" "faultPlace" "I") (by decide +kernel)
  have hl := lv_entry ([.ref (ad 188), .int a1, .int a2]) (n := 3) (Nat.le_of_ble_eq_true rfl)
  rw [lg_entry_eq]
  generalize (lg_sl ([.ref (ad 188), .int a1, .int a2]) ++ List.replicate (3 - (lg_sl ([.ref (ad 188), .int a1, .int a2])).length) Slot.unset).toArray = ls at hl ⊢
  have hl : lv_has ls 3 [(0, .ref (ad 188)), (1, .int a1), (2, .int a2)] := hl
  refine lv_aload_n hx hb dX11_fails_0 rfl (lv_at hl 0 rfl) ?_
  refine lv_iload_n hx hb dX11_fails_1 rfl (lv_at hl 2 rfl) ?_
  refine q_put (o := 188) (ci := 11) (k := 15) (T := TX11) (ty := .int) (v := a2) C hM (qmem_11 E ad S A b (show qk 188 = 11 from by decide +kernel)) (by decide) rfl hi11 tyX11 tyX11_ok nmX11 (by decide) hL0 rfl rfl (by decide +kernel) rfl rfl (Nat.le_of_ble_eq_true rfl) (qs_11_15 E ad S A b (show qk 188 = 11 from by decide +kernel) a2) dX11_fails_2 (fun H locs hM => ?_)
  obtain ⟨S_1, eS_1⟩ : ∃ zz, zz = q2 S 188 15 a2 := ⟨_, rfl⟩
  rw [← eS_1] at hM
  refine lv_iload_n hx hb dX11_fails_5 rfl (lv_at hl 1 rfl) ?_
  exact q_iret C hM dX11_fails_6 (by exact ⟨⟨rfl, rfl⟩, rfl, eS_1⟩)

set_option maxHeartbeats 4000000 in
set_option maxRecDepth 100000 in
theorem c_X11_openCells (E : qE) (ad : Nat → Nat) (l : Launch) (S A : qA2) (b : qB) (nC : Nat) (hC : S 188 0 = nI nC) (hCb : nC ≤ 12) : MI E ad l yX11_openCells wsX11_openCells { frames := 1, cells := 0, slots := 0, locals := 21 } [.ref (ad 188)] S A b (fun r S' A' b' => (S = S' ∧ A = A' ∧ b = b') ∧ r = qopen (S 188 3) (S 188 2) (A 193) nC) := by
  refine MI.of (cc := cX11_openCells) (maxL := 3) (ret := some .int) RX11 rfl (by decide) rfl ?_
  intro pg e s m below meth cd C hM
  have hx := C.1
  have hb := C.2.1
  have hts := C.2.2.2.2.1
  have hA : ∀ q, s.heap.size ≤ q → qAr ad s.heap.size q := fun _ h => Or.inr h
  have hi11 : ∀ w ∈ u_ws RX11 TX11 45, w ∈ wsX11_openCells := by decide +kernel
  have hL0 := hts (.fieldLink RX11 90 "CrowFencesModel" "cells" "I") (by decide +kernel)
  have hL1 := hts (.fieldLink RX11 186 "CrowFencesModel" "road" "I") (by decide +kernel)
  have hL2 := hts (.fieldLink RX11 22 "CrowFencesModel" "now" "[I") (by decide +kernel)
  have hL3 := hts (.fieldLink RX11 183 "CrowFencesModel" "open" "I") (by decide +kernel)
  have hl := lv_entry ([.ref (ad 188)]) (n := 3) (Nat.le_of_ble_eq_true rfl)
  rw [lg_entry_eq]
  generalize (lg_sl ([.ref (ad 188)]) ++ List.replicate (3 - (lg_sl ([.ref (ad 188)])).length) Slot.unset).toArray = ls at hl ⊢
  have hl : lv_has ls 3 [(0, .ref (ad 188))] := hl
  refine lv_iconst (v := 0) hx hb dX11_openCells_0 (by decide) ?_
  refine lv_istore_n (lv' := [(1, .int 0), (0, .ref (ad 188))]) hx hb dX11_openCells_1 rfl hl (by decide) rfl (fun ls hl => ?_)
  refine lv_iconst (v := 0) hx hb dX11_openCells_2 (by decide) ?_
  refine lv_istore_n (lv' := [(2, .int 0), (1, .int 0), (0, .ref (ad 188))]) hx hb dX11_openCells_3 rfl hl (by decide) rfl (fun ls hl => ?_)
  have loop4 : ∀ (fu : Nat) (t : Int32) (k : Nat) (hk : k ≤ nC) (ht : t = qopen (S 188 3) (S 188 2) (A 193) k), nC - k < fu → ∀ (H : Heap) (locs : List Loc) (ls : Array Slot), qM E ad S A b (qAr ad s.heap.size) s H locs → lv_has ls 3 [(2, .int (nI k)), (1, .int t), (0, .ref (ad 188))] → W pg l e (headSpec wsX11_openCells { frames := 1, cells := 0, slots := 0, locals := 21 }).room s m ([.ref (ad 188)] : List Value).toArray below meth cd H locs 0 0 (MQ below (qQi E ad s.heap.size (fun r S' A' b' => (S = S' ∧ A = A' ∧ b = b') ∧ r = qopen (S 188 3) (S 188 2) (A 193) nC)) ([.ref (ad 188)] : List Value).toArray s 0 0 (qAr ad s.heap.size)) (F0 m 4 ls []) := by
    intro fu
    induction fu with
    | zero => intro t k hk ht hn; exact absurd hn (Nat.not_lt_zero _)
    | succ fu ih4 =>
      intro t k hk ht hn H locs ls hM hl
      refine lv_iload_n hx hb dX11_openCells_4 rfl (lv_at hl 0 rfl) ?_
      refine lv_aload_n hx hb dX11_openCells_5 rfl (lv_at hl 2 rfl) ?_
      refine q_get (o := 188) (ci := 11) (k := 0) (T := TX11) (v := .int (S 188 0)) C hM (qmem_11 E ad S A b (show qk 188 = 11 from by decide +kernel)) (by decide) rfl hi11 (by decide) hL0 rfl rfl dX11_openCells_6 ?_
      refine lv_as (y := nI nC) hC ?_
      refine lv_icmp_ge (tgt := 52) hx hb dX11_openCells_9 (by decide) (fun c_9 => ?_) (fun c_9 => ?_)
      · skip
        have c_9 : nC ≤ k := (nI_leI (a := nC) (b := k) (by omega) (by omega)).mp c_9
        refine lv_iload_n hx hb dX11_openCells_52 rfl (lv_at hl 1 rfl) ?_
        exact q_iret C hM dX11_openCells_53 (by exact ⟨⟨rfl, rfl, rfl⟩, (by rw [ht, show k = nC by omega])⟩)
      · skip
        have c_9 : ¬ (nC ≤ k) := fun z => c_9 ((nI_leI (a := nC) (b := k) (by omega) (by omega)).mpr z)
        refine lv_iload_n hx hb dX11_openCells_12 rfl (lv_at hl 1 rfl) ?_
        refine lv_aload_n hx hb dX11_openCells_13 rfl (lv_at hl 2 rfl) ?_
        refine q_get (o := 188) (ci := 11) (k := 3) (T := TX11) (v := .int (S 188 3)) C hM (qmem_11 E ad S A b (show qk 188 = 11 from by decide +kernel)) (by decide) rfl hi11 (by decide) hL1 rfl rfl dX11_openCells_14 ?_
        refine lv_iload_n hx hb dX11_openCells_17 rfl (lv_at hl 0 rfl) ?_
        refine q_callSI (n := 2) (As := [.int (S 188 3), .int (nI k)]) (rest := [.int t]) C hM hA (c_X11_has E ad l S A b (S 188 3) (nI k)) gX11_openCells_X11_has rfl rfl rfl (by decide +kernel) ⟨Nat.le_of_ble_eq_true rfl, Nat.le_of_ble_eq_true rfl⟩ rfl hl.1 rfl (Nat.le_of_ble_eq_true rfl) ⟨Nat.zero_le _, Nat.zero_le _⟩ dX11_openCells_18 (fun r_1 S_2 A_3 b_4 H locs qr_1 hM => ?_)
        obtain ⟨⟨e1, e2, e3⟩, er_1⟩ := qr_1
        subst e1; subst e2; subst e3
        refine lv_if_eq (tgt := 43) hx hb dX11_openCells_21 (by decide) (fun c_21 => ?_) (fun c_21 => ?_)
        · skip
          refine lv_iconst (v := 0) hx hb dX11_openCells_43 (by decide) ?_
          refine lv_ior hx hb dX11_openCells_44 ?_
          refine lv_topi (fun x1_5 ex1_5 => ?_)
          refine lv_istore_n (lv' := [(1, .int x1_5), (2, .int (nI k)), (0, .ref (ad 188))]) hx hb dX11_openCells_45 rfl hl (by decide) rfl (fun ls hl => ?_)
          refine lv_iinc (v := nI (k + 1)) (lv' := [(2, .int (nI (k + 1))), (1, .int x1_5), (0, .ref (ad 188))]) hx hb dX11_openCells_46 hl (k := 1) rfl (by rw [nI_succ]; rfl) (by decide) rfl (fun ls hl => ?_)
          refine lv_goto (tgt := 4) hx hb dX11_openCells_49 (by decide) ?_
          exact ih4 x1_5 (k + 1) (by omega) (by rw [er_1, q01_eq0] at c_21; rw [ex1_5, ht, i32_or0]; simp only [qopen, qor]; rw [if_neg (fun z => c_21 z.1), i32_or0]) (by omega) _ _ _ hM hl
        · skip
          refine lv_aload_n hx hb dX11_openCells_24 rfl (lv_at hl 2 rfl) ?_
          refine q_get (o := 188) (ci := 11) (k := 11) (T := TX11) (v := .ref (ad 193)) C hM (qmem_11 E ad S A b (show qk 188 = 11 from by decide +kernel)) (by decide) rfl hi11 (by decide) hL2 rfl rfl dX11_openCells_25 ?_
          refine lv_iload_n hx hb dX11_openCells_28 rfl (lv_at hl 0 rfl) ?_
          refine q_iald (v := A 193 k) C hM (show qk 193 = 12 from by decide +kernel) (by rw [(show ql 193 = 37 from by decide +kernel)]; exact vp_nI (by omega) (by omega)) (by rw [nIc (by omega)]) dX11_openCells_29 ?_
          refine lv_aload_n hx hb dX11_openCells_30 rfl (lv_at hl 2 rfl) ?_
          refine q_get (o := 188) (ci := 11) (k := 2) (T := TX11) (v := .int (S 188 2)) C hM (qmem_11 E ad S A b (show qk 188 = 11 from by decide +kernel)) (by decide) rfl hi11 (by decide) hL3 rfl rfl dX11_openCells_31 ?_
          refine lv_icmp_gt (tgt := 43) hx hb dX11_openCells_34 (by decide) (fun c_34 => ?_) (fun c_34 => ?_)
          · skip
            refine lv_iconst (v := 0) hx hb dX11_openCells_43 (by decide) ?_
            refine lv_ior hx hb dX11_openCells_44 ?_
            refine lv_topi (fun x1_6 ex1_6 => ?_)
            refine lv_istore_n (lv' := [(1, .int x1_6), (2, .int (nI k)), (0, .ref (ad 188))]) hx hb dX11_openCells_45 rfl hl (by decide) rfl (fun ls hl => ?_)
            refine lv_iinc (v := nI (k + 1)) (lv' := [(2, .int (nI (k + 1))), (1, .int x1_6), (0, .ref (ad 188))]) hx hb dX11_openCells_46 hl (k := 1) rfl (by rw [nI_succ]; rfl) (by decide) rfl (fun ls hl => ?_)
            refine lv_goto (tgt := 4) hx hb dX11_openCells_49 (by decide) ?_
            exact ih4 x1_6 (k + 1) (by omega) (by rw [ex1_6, ht, i32_or0]; simp only [qopen, qor]; rw [if_neg (fun z => Int32.not_le.mpr c_34 z.2), i32_or0]) (by omega) _ _ _ hM hl
          · skip
            refine lv_iconst (v := 1) hx hb dX11_openCells_37 (by decide) ?_
            refine lv_iload_n hx hb dX11_openCells_38 rfl (lv_at hl 0 rfl) ?_
            refine lv_ishl hx hb dX11_openCells_39 ?_
            refine lv_goto (tgt := 44) hx hb dX11_openCells_40 (by decide) ?_
            refine lv_ior hx hb dX11_openCells_44 ?_
            refine lv_topi (fun x1_7 ex1_7 => ?_)
            refine lv_istore_n (lv' := [(1, .int x1_7), (2, .int (nI k)), (0, .ref (ad 188))]) hx hb dX11_openCells_45 rfl hl (by decide) rfl (fun ls hl => ?_)
            refine lv_iinc (v := nI (k + 1)) (lv' := [(2, .int (nI (k + 1))), (1, .int x1_7), (0, .ref (ad 188))]) hx hb dX11_openCells_46 hl (k := 1) rfl (by rw [nI_succ]; rfl) (by decide) rfl (fun ls hl => ?_)
            refine lv_goto (tgt := 4) hx hb dX11_openCells_49 (by decide) ?_
            exact ih4 x1_7 (k + 1) (by omega) (by rw [er_1, q01_eq0] at c_21; rw [ex1_7, ht]; simp only [qopen, qor]; rw [if_pos ⟨Classical.not_not.mp c_21, Int32.not_lt.mp c_34⟩]; rfl) (by omega) _ _ _ hM hl
  exact loop4 (nC - 0 + 1) 0 0 (by omega) rfl (Nat.lt_succ_self _) _ _ _ hM hl

set_option maxHeartbeats 4000000 in
set_option maxRecDepth 100000 in
theorem c_X11_letPosts (E : qE) (ad : Nat → Nat) (l : Launch) (S A : qA2) (b : qB) (nP : Nat) (hPo : S 188 4 = nI nP) (hPb : nP ≤ 6) : MI E ad l yX11_letPosts wsX11_letPosts { frames := 0, cells := 0, slots := 0, locals := 0 } [.ref (ad 188)] S A b (fun r S' A' b' => (S = S' ∧ A = A' ∧ b = b') ∧ r = mlet (A 193) nP) := by
  refine MI.of (cc := cX11_letPosts) (maxL := 3) (ret := some .int) RX11 rfl (by decide) rfl ?_
  intro pg e s m below meth cd C hM
  have hx := C.1
  have hb := C.2.1
  have hts := C.2.2.2.2.1
  have hA : ∀ q, s.heap.size ≤ q → qAr ad s.heap.size q := fun _ h => Or.inr h
  have hi11 : ∀ w ∈ u_ws RX11 TX11 45, w ∈ wsX11_letPosts := by decide +kernel
  have hL0 := hts (.fieldLink RX11 97 "CrowFencesModel" "posts" "I") (by decide +kernel)
  have hL1 := hts (.fieldLink RX11 22 "CrowFencesModel" "now" "[I") (by decide +kernel)
  have hl := lv_entry ([.ref (ad 188)]) (n := 3) (Nat.le_of_ble_eq_true rfl)
  rw [lg_entry_eq]
  generalize (lg_sl ([.ref (ad 188)]) ++ List.replicate (3 - (lg_sl ([.ref (ad 188)])).length) Slot.unset).toArray = ls at hl ⊢
  have hl : lv_has ls 3 [(0, .ref (ad 188))] := hl
  refine lv_iconst (v := 0) hx hb dX11_letPosts_0 (by decide) ?_
  refine lv_istore_n (lv' := [(1, .int 0), (0, .ref (ad 188))]) hx hb dX11_letPosts_1 rfl hl (by decide) rfl (fun ls hl => ?_)
  refine lv_iconst (v := 0) hx hb dX11_letPosts_2 (by decide) ?_
  refine lv_istore_n (lv' := [(2, .int 0), (1, .int 0), (0, .ref (ad 188))]) hx hb dX11_letPosts_3 rfl hl (by decide) rfl (fun ls hl => ?_)
  have loop4 : ∀ (fu : Nat) (t : Int32) (k : Nat) (hk : k ≤ nP) (ht : t = mlet (A 193) k), nP - k < fu → ∀ (H : Heap) (locs : List Loc) (ls : Array Slot), qM E ad S A b (qAr ad s.heap.size) s H locs → lv_has ls 3 [(2, .int (nI k)), (1, .int t), (0, .ref (ad 188))] → W pg l e (headSpec wsX11_letPosts { frames := 0, cells := 0, slots := 0, locals := 0 }).room s m ([.ref (ad 188)] : List Value).toArray below meth cd H locs 0 0 (MQ below (qQi E ad s.heap.size (fun r S' A' b' => (S = S' ∧ A = A' ∧ b = b') ∧ r = mlet (A 193) nP)) ([.ref (ad 188)] : List Value).toArray s 0 0 (qAr ad s.heap.size)) (F0 m 4 ls []) := by
    intro fu
    induction fu with
    | zero => intro t k hk ht hn; exact absurd hn (Nat.not_lt_zero _)
    | succ fu ih4 =>
      intro t k hk ht hn H locs ls hM hl
      refine lv_iload_n hx hb dX11_letPosts_4 rfl (lv_at hl 0 rfl) ?_
      refine lv_aload_n hx hb dX11_letPosts_5 rfl (lv_at hl 2 rfl) ?_
      refine q_get (o := 188) (ci := 11) (k := 4) (T := TX11) (v := .int (S 188 4)) C hM (qmem_11 E ad S A b (show qk 188 = 11 from by decide +kernel)) (by decide) rfl hi11 (by decide) hL0 rfl rfl dX11_letPosts_6 ?_
      refine lv_as (y := nI nP) hPo ?_
      refine lv_icmp_ge (tgt := 40) hx hb dX11_letPosts_9 (by decide) (fun c_9 => ?_) (fun c_9 => ?_)
      · skip
        have c_9 : nP ≤ k := (nI_leI (a := nP) (b := k) (by omega) (by omega)).mp c_9
        refine lv_iload_n hx hb dX11_letPosts_40 rfl (lv_at hl 1 rfl) ?_
        exact q_iret C hM dX11_letPosts_41 (by exact ⟨⟨rfl, rfl, rfl⟩, (by rw [ht, show k = nP by omega])⟩)
      · skip
        have c_9 : ¬ (nP ≤ k) := fun z => c_9 ((nI_leI (a := nP) (b := k) (by omega) (by omega)).mpr z)
        refine lv_iload_n hx hb dX11_letPosts_12 rfl (lv_at hl 1 rfl) ?_
        refine lv_aload_n hx hb dX11_letPosts_13 rfl (lv_at hl 2 rfl) ?_
        refine q_get (o := 188) (ci := 11) (k := 11) (T := TX11) (v := .ref (ad 193)) C hM (qmem_11 E ad S A b (show qk 188 = 11 from by decide +kernel)) (by decide) rfl hi11 (by decide) hL1 rfl rfl dX11_letPosts_14 ?_
        refine lv_bipush (v := 18) hx hb dX11_letPosts_17 (by decide) ?_
        refine lv_iload_n hx hb dX11_letPosts_19 rfl (lv_at hl 0 rfl) ?_
        refine lv_iadd hx hb dX11_letPosts_20 ?_
        refine lv_as (y := nI (18 + k)) (nI_add _ _) ?_
        refine q_iald (v := A 193 (18 + k)) C hM (show qk 193 = 12 from by decide +kernel) (by rw [(show ql 193 = 37 from by decide +kernel)]; exact vp_nI (by omega) (by omega)) (by rw [nIc (by omega)]) dX11_letPosts_21 ?_
        refine lv_if_lt (tgt := 31) hx hb dX11_letPosts_22 (by decide) (fun c_22 => ?_) (fun c_22 => ?_)
        · skip
          refine lv_iconst (v := 0) hx hb dX11_letPosts_31 (by decide) ?_
          refine lv_ior hx hb dX11_letPosts_32 ?_
          refine lv_topi (fun x1_1 ex1_1 => ?_)
          refine lv_istore_n (lv' := [(1, .int x1_1), (2, .int (nI k)), (0, .ref (ad 188))]) hx hb dX11_letPosts_33 rfl hl (by decide) rfl (fun ls hl => ?_)
          refine lv_iinc (v := nI (k + 1)) (lv' := [(2, .int (nI (k + 1))), (1, .int x1_1), (0, .ref (ad 188))]) hx hb dX11_letPosts_34 hl (k := 1) rfl (by rw [nI_succ]; rfl) (by decide) rfl (fun ls hl => ?_)
          refine lv_goto (tgt := 4) hx hb dX11_letPosts_37 (by decide) ?_
          exact ih4 x1_1 (k + 1) (by omega) (by rw [ex1_1, ht, i32_or0]; simp only [mlet, qor]; rw [if_pos c_22, i32_or0]) (by omega) _ _ _ hM hl
        · skip
          refine lv_iconst (v := 1) hx hb dX11_letPosts_25 (by decide) ?_
          refine lv_iload_n hx hb dX11_letPosts_26 rfl (lv_at hl 0 rfl) ?_
          refine lv_ishl hx hb dX11_letPosts_27 ?_
          refine lv_goto (tgt := 32) hx hb dX11_letPosts_28 (by decide) ?_
          refine lv_ior hx hb dX11_letPosts_32 ?_
          refine lv_topi (fun x1_2 ex1_2 => ?_)
          refine lv_istore_n (lv' := [(1, .int x1_2), (2, .int (nI k)), (0, .ref (ad 188))]) hx hb dX11_letPosts_33 rfl hl (by decide) rfl (fun ls hl => ?_)
          refine lv_iinc (v := nI (k + 1)) (lv' := [(2, .int (nI (k + 1))), (1, .int x1_2), (0, .ref (ad 188))]) hx hb dX11_letPosts_34 hl (k := 1) rfl (by rw [nI_succ]; rfl) (by decide) rfl (fun ls hl => ?_)
          refine lv_goto (tgt := 4) hx hb dX11_letPosts_37 (by decide) ?_
          exact ih4 x1_2 (k + 1) (by omega) (by rw [ex1_2, ht]; simp only [mlet, qor]; rw [if_neg c_22]; rfl) (by omega) _ _ _ hM hl
  exact loop4 (nP - 0 + 1) 0 0 (by omega) rfl (Nat.lt_succ_self _) _ _ _ hM hl

set_option maxHeartbeats 4000000 in
set_option maxRecDepth 100000 in
theorem c_X11_allSnow (E : qE) (ad : Nat → Nat) (l : Launch) (S A : qA2) (b : qB) (nC : Nat) (hC : S 188 0 = nI nC) (hCb : nC ≤ 12) : MI E ad l yX11_allSnow wsX11_allSnow { frames := 0, cells := 0, slots := 0, locals := 0 } [.ref (ad 188)] S A b (fun r S' A' b' => (S = S' ∧ A = A' ∧ b = b') ∧ r = qsum (A 193) nC) := by
  refine MI.of (cc := cX11_allSnow) (maxL := 3) (ret := some .int) RX11 rfl (by decide) rfl ?_
  intro pg e s m below meth cd C hM
  have hx := C.1
  have hb := C.2.1
  have hts := C.2.2.2.2.1
  have hA : ∀ q, s.heap.size ≤ q → qAr ad s.heap.size q := fun _ h => Or.inr h
  have hi11 : ∀ w ∈ u_ws RX11 TX11 45, w ∈ wsX11_allSnow := by decide +kernel
  have hL0 := hts (.fieldLink RX11 90 "CrowFencesModel" "cells" "I") (by decide +kernel)
  have hL1 := hts (.fieldLink RX11 22 "CrowFencesModel" "now" "[I") (by decide +kernel)
  have hl := lv_entry ([.ref (ad 188)]) (n := 3) (Nat.le_of_ble_eq_true rfl)
  rw [lg_entry_eq]
  generalize (lg_sl ([.ref (ad 188)]) ++ List.replicate (3 - (lg_sl ([.ref (ad 188)])).length) Slot.unset).toArray = ls at hl ⊢
  have hl : lv_has ls 3 [(0, .ref (ad 188))] := hl
  refine lv_iconst (v := 0) hx hb dX11_allSnow_0 (by decide) ?_
  refine lv_istore_n (lv' := [(1, .int 0), (0, .ref (ad 188))]) hx hb dX11_allSnow_1 rfl hl (by decide) rfl (fun ls hl => ?_)
  refine lv_iconst (v := 0) hx hb dX11_allSnow_2 (by decide) ?_
  refine lv_istore_n (lv' := [(2, .int 0), (1, .int 0), (0, .ref (ad 188))]) hx hb dX11_allSnow_3 rfl hl (by decide) rfl (fun ls hl => ?_)
  have loop4 : ∀ (fu : Nat) (t : Int32) (k : Nat) (hk : k ≤ nC) (ht : t = qsum (A 193) k), nC - k < fu → ∀ (H : Heap) (locs : List Loc) (ls : Array Slot), qM E ad S A b (qAr ad s.heap.size) s H locs → lv_has ls 3 [(2, .int (nI k)), (1, .int t), (0, .ref (ad 188))] → W pg l e (headSpec wsX11_allSnow { frames := 0, cells := 0, slots := 0, locals := 0 }).room s m ([.ref (ad 188)] : List Value).toArray below meth cd H locs 0 0 (MQ below (qQi E ad s.heap.size (fun r S' A' b' => (S = S' ∧ A = A' ∧ b = b') ∧ r = qsum (A 193) nC)) ([.ref (ad 188)] : List Value).toArray s 0 0 (qAr ad s.heap.size)) (F0 m 4 ls []) := by
    intro fu
    induction fu with
    | zero => intro t k hk ht hn; exact absurd hn (Nat.not_lt_zero _)
    | succ fu ih4 =>
      intro t k hk ht hn H locs ls hM hl
      refine lv_iload_n hx hb dX11_allSnow_4 rfl (lv_at hl 0 rfl) ?_
      refine lv_aload_n hx hb dX11_allSnow_5 rfl (lv_at hl 2 rfl) ?_
      refine q_get (o := 188) (ci := 11) (k := 0) (T := TX11) (v := .int (S 188 0)) C hM (qmem_11 E ad S A b (show qk 188 = 11 from by decide +kernel)) (by decide) rfl hi11 (by decide) hL0 rfl rfl dX11_allSnow_6 ?_
      refine lv_as (y := nI nC) hC ?_
      refine lv_icmp_ge (tgt := 27) hx hb dX11_allSnow_9 (by decide) (fun c_9 => ?_) (fun c_9 => ?_)
      · skip
        have c_9 : nC ≤ k := (nI_leI (a := nC) (b := k) (by omega) (by omega)).mp c_9
        refine lv_iload_n hx hb dX11_allSnow_27 rfl (lv_at hl 1 rfl) ?_
        exact q_iret C hM dX11_allSnow_28 (by exact ⟨⟨rfl, rfl, rfl⟩, (by rw [ht, show k = nC by omega])⟩)
      · skip
        have c_9 : ¬ (nC ≤ k) := fun z => c_9 ((nI_leI (a := nC) (b := k) (by omega) (by omega)).mpr z)
        refine lv_iload_n hx hb dX11_allSnow_12 rfl (lv_at hl 1 rfl) ?_
        refine lv_aload_n hx hb dX11_allSnow_13 rfl (lv_at hl 2 rfl) ?_
        refine q_get (o := 188) (ci := 11) (k := 11) (T := TX11) (v := .ref (ad 193)) C hM (qmem_11 E ad S A b (show qk 188 = 11 from by decide +kernel)) (by decide) rfl hi11 (by decide) hL1 rfl rfl dX11_allSnow_14 ?_
        refine lv_iload_n hx hb dX11_allSnow_17 rfl (lv_at hl 0 rfl) ?_
        refine q_iald (v := A 193 k) C hM (show qk 193 = 12 from by decide +kernel) (by rw [(show ql 193 = 37 from by decide +kernel)]; exact vp_nI (by omega) (by omega)) (by rw [nIc (by omega)]) dX11_allSnow_18 ?_
        refine lv_iadd hx hb dX11_allSnow_19 ?_
        refine lv_topi (fun x1_1 ex1_1 => ?_)
        refine lv_istore_n (lv' := [(1, .int x1_1), (2, .int (nI k)), (0, .ref (ad 188))]) hx hb dX11_allSnow_20 rfl hl (by decide) rfl (fun ls hl => ?_)
        refine lv_iinc (v := nI (k + 1)) (lv' := [(2, .int (nI (k + 1))), (1, .int x1_1), (0, .ref (ad 188))]) hx hb dX11_allSnow_21 hl (k := 1) rfl (by rw [nI_succ]; rfl) (by decide) rfl (fun ls hl => ?_)
        refine lv_goto (tgt := 4) hx hb dX11_allSnow_24 (by decide) ?_
        exact ih4 x1_1 (k + 1) (by omega) (by rw [ex1_1, ht]; rfl) (by omega) _ _ _ hM hl
  exact loop4 (nC - 0 + 1) 0 0 (by omega) rfl (Nat.lt_succ_self _) _ _ _ hM hl

set_option maxHeartbeats 4000000 in
set_option maxRecDepth 100000 in
theorem c_X11_postOf (E : qE) (ad : Nat → Nat) (l : Launch) (S A : qA2) (b : qB) (a1 : Int32) (nP : Nat) (hPo : S 188 4 = nI nP) (hPb : nP ≤ 6) : MI E ad l yX11_postOf wsX11_postOf { frames := 0, cells := 0, slots := 0, locals := 0 } [.ref (ad 188), .int a1] S A b (fun r S' A' b' => (S = S' ∧ A = A' ∧ b = b') ∧ r = mpost (A 193) a1 nP) := by
  refine MI.of (cc := cX11_postOf) (maxL := 4) (ret := some .int) RX11 rfl (by decide) rfl ?_
  intro pg e s m below meth cd C hM
  have hx := C.1
  have hb := C.2.1
  have hts := C.2.2.2.2.1
  have hA : ∀ q, s.heap.size ≤ q → qAr ad s.heap.size q := fun _ h => Or.inr h
  have hi11 : ∀ w ∈ u_ws RX11 TX11 45, w ∈ wsX11_postOf := by decide +kernel
  have hL0 := hts (.fieldLink RX11 97 "CrowFencesModel" "posts" "I") (by decide +kernel)
  have hL1 := hts (.fieldLink RX11 22 "CrowFencesModel" "now" "[I") (by decide +kernel)
  have hl := lv_entry ([.ref (ad 188), .int a1]) (n := 4) (Nat.le_of_ble_eq_true rfl)
  rw [lg_entry_eq]
  generalize (lg_sl ([.ref (ad 188), .int a1]) ++ List.replicate (4 - (lg_sl ([.ref (ad 188), .int a1])).length) Slot.unset).toArray = ls at hl ⊢
  have hl : lv_has ls 4 [(0, .ref (ad 188)), (1, .int a1)] := hl
  refine lv_iconst (v := (-1)) hx hb dX11_postOf_0 (by decide) ?_
  refine lv_istore_n (lv' := [(2, .int (-1)), (0, .ref (ad 188)), (1, .int a1)]) hx hb dX11_postOf_1 rfl hl (by decide) rfl (fun ls hl => ?_)
  refine lv_iconst (v := 0) hx hb dX11_postOf_2 (by decide) ?_
  refine lv_istore_n (lv' := [(3, .int 0), (2, .int (-1)), (0, .ref (ad 188)), (1, .int a1)]) hx hb dX11_postOf_3 rfl hl (by decide) rfl (fun ls hl => ?_)
  have loop4 : ∀ (fu : Nat) (t : Int32) (k : Nat) (hk : k ≤ nP) (ht : t = mpost (A 193) a1 k), nP - k < fu → ∀ (H : Heap) (locs : List Loc) (ls : Array Slot), qM E ad S A b (qAr ad s.heap.size) s H locs → lv_has ls 4 [(3, .int (nI k)), (2, .int t), (0, .ref (ad 188)), (1, .int a1)] → W pg l e (headSpec wsX11_postOf { frames := 0, cells := 0, slots := 0, locals := 0 }).room s m ([.ref (ad 188), .int a1] : List Value).toArray below meth cd H locs 0 0 (MQ below (qQi E ad s.heap.size (fun r S' A' b' => (S = S' ∧ A = A' ∧ b = b') ∧ r = mpost (A 193) a1 nP)) ([.ref (ad 188), .int a1] : List Value).toArray s 0 0 (qAr ad s.heap.size)) (F0 m 4 ls []) := by
    intro fu
    induction fu with
    | zero => intro t k hk ht hn; exact absurd hn (Nat.not_lt_zero _)
    | succ fu ih4 =>
      intro t k hk ht hn H locs ls hM hl
      refine lv_iload_n hx hb dX11_postOf_4 rfl (lv_at hl 0 rfl) ?_
      refine lv_aload_n hx hb dX11_postOf_5 rfl (lv_at hl 2 rfl) ?_
      refine q_get (o := 188) (ci := 11) (k := 4) (T := TX11) (v := .int (S 188 4)) C hM (qmem_11 E ad S A b (show qk 188 = 11 from by decide +kernel)) (by decide) rfl hi11 (by decide) hL0 rfl rfl dX11_postOf_6 ?_
      refine lv_as (y := nI nP) hPo ?_
      refine lv_icmp_ge (tgt := 37) hx hb dX11_postOf_9 (by decide) (fun c_9 => ?_) (fun c_9 => ?_)
      · skip
        have c_9 : nP ≤ k := (nI_leI (a := nP) (b := k) (by omega) (by omega)).mp c_9
        refine lv_iload_n hx hb dX11_postOf_37 rfl (lv_at hl 1 rfl) ?_
        exact q_iret C hM dX11_postOf_38 (by exact ⟨⟨rfl, rfl, rfl⟩, (by rw [ht, show k = nP by omega])⟩)
      · skip
        have c_9 : ¬ (nP ≤ k) := fun z => c_9 ((nI_leI (a := nP) (b := k) (by omega) (by omega)).mpr z)
        refine lv_aload_n hx hb dX11_postOf_12 rfl (lv_at hl 2 rfl) ?_
        refine q_get (o := 188) (ci := 11) (k := 11) (T := TX11) (v := .ref (ad 193)) C hM (qmem_11 E ad S A b (show qk 188 = 11 from by decide +kernel)) (by decide) rfl hi11 (by decide) hL1 rfl rfl dX11_postOf_13 ?_
        refine lv_bipush (v := 18) hx hb dX11_postOf_16 (by decide) ?_
        refine lv_iload_n hx hb dX11_postOf_18 rfl (lv_at hl 0 rfl) ?_
        refine lv_iadd hx hb dX11_postOf_19 ?_
        refine lv_as (y := nI (18 + k)) (nI_add _ _) ?_
        refine q_iald (v := A 193 (18 + k)) C hM (show qk 193 = 12 from by decide +kernel) (by rw [(show ql 193 = 37 from by decide +kernel)]; exact vp_nI (by omega) (by omega)) (by rw [nIc (by omega)]) dX11_postOf_20 ?_
        refine lv_iload_n hx hb dX11_postOf_21 rfl (lv_at hl 3 rfl) ?_
        refine lv_icmp_ne (tgt := 29) hx hb dX11_postOf_22 (by decide) (fun c_22 => ?_) (fun c_22 => ?_)
        · skip
          refine lv_iload_n hx hb dX11_postOf_29 rfl (lv_at hl 1 rfl) ?_
          refine lv_istore_n (lv' := [(2, .int t), (3, .int (nI k)), (0, .ref (ad 188)), (1, .int a1)]) hx hb dX11_postOf_30 rfl hl (by decide) rfl (fun ls hl => ?_)
          refine lv_iinc (v := nI (k + 1)) (lv' := [(3, .int (nI (k + 1))), (2, .int t), (0, .ref (ad 188)), (1, .int a1)]) hx hb dX11_postOf_31 hl (k := 1) rfl (by rw [nI_succ]; rfl) (by decide) rfl (fun ls hl => ?_)
          refine lv_goto (tgt := 4) hx hb dX11_postOf_34 (by decide) ?_
          exact ih4 t (k + 1) (by omega) (by unfold mpost; rw [if_neg c_22]; exact ht) (by omega) _ _ _ hM hl
        · skip
          refine lv_iload_n hx hb dX11_postOf_25 rfl (lv_at hl 0 rfl) ?_
          refine lv_goto (tgt := 30) hx hb dX11_postOf_26 (by decide) ?_
          refine lv_istore_n (lv' := [(2, .int (nI k)), (3, .int (nI k)), (0, .ref (ad 188)), (1, .int a1)]) hx hb dX11_postOf_30 rfl hl (by decide) rfl (fun ls hl => ?_)
          refine lv_iinc (v := nI (k + 1)) (lv' := [(3, .int (nI (k + 1))), (2, .int (nI k)), (0, .ref (ad 188)), (1, .int a1)]) hx hb dX11_postOf_31 hl (k := 1) rfl (by rw [nI_succ]; rfl) (by decide) rfl (fun ls hl => ?_)
          refine lv_goto (tgt := 4) hx hb dX11_postOf_34 (by decide) ?_
          exact ih4 (nI k) (k + 1) (by omega) (by unfold mpost; rw [if_pos c_22]) (by omega) _ _ _ hM hl
  exact loop4 (nP - 0 + 1) (-1) 0 (by omega) rfl (Nat.lt_succ_self _) _ _ _ hM hl

set_option maxHeartbeats 4000000 in
set_option maxRecDepth 100000 in
theorem c_X11_hasFence (E : qE) (ad : Nat → Nat) (l : Launch) (S A : qA2) (b : qB) (a1 : Int32) (nP : Nat) (hPo : S 188 4 = nI nP) (hPb : nP ≤ 6) : MI E ad l yX11_hasFence wsX11_hasFence { frames := 1, cells := 0, slots := 0, locals := 21 } [.ref (ad 188), .int a1] S A b (fun r S' A' b' => (S = S' ∧ A = A' ∧ b = b') ∧ r = q01 (mfen (A 193) a1 nP = true)) := by
  refine MI.of (cc := cX11_hasFence) (maxL := 4) (ret := some .boolean) RX11 rfl (by decide) rfl ?_
  intro pg e s m below meth cd C hM
  have hx := C.1
  have hb := C.2.1
  have hts := C.2.2.2.2.1
  have hA : ∀ q, s.heap.size ≤ q → qAr ad s.heap.size q := fun _ h => Or.inr h
  have hi11 : ∀ w ∈ u_ws RX11 TX11 45, w ∈ wsX11_hasFence := by decide +kernel
  have hL0 := hts (.fieldLink RX11 97 "CrowFencesModel" "posts" "I") (by decide +kernel)
  have hL1 := hts (.fieldLink RX11 22 "CrowFencesModel" "now" "[I") (by decide +kernel)
  have hl := lv_entry ([.ref (ad 188), .int a1]) (n := 4) (Nat.le_of_ble_eq_true rfl)
  rw [lg_entry_eq]
  generalize (lg_sl ([.ref (ad 188), .int a1]) ++ List.replicate (4 - (lg_sl ([.ref (ad 188), .int a1])).length) Slot.unset).toArray = ls at hl ⊢
  have hl : lv_has ls 4 [(0, .ref (ad 188)), (1, .int a1)] := hl
  refine lv_iconst (v := 0) hx hb dX11_hasFence_0 (by decide) ?_
  refine lv_istore_n (lv' := [(2, .int 0), (0, .ref (ad 188)), (1, .int a1)]) hx hb dX11_hasFence_1 rfl hl (by decide) rfl (fun ls hl => ?_)
  refine lv_iconst (v := 0) hx hb dX11_hasFence_2 (by decide) ?_
  refine lv_istore_n (lv' := [(3, .int 0), (2, .int 0), (0, .ref (ad 188)), (1, .int a1)]) hx hb dX11_hasFence_3 rfl hl (by decide) rfl (fun ls hl => ?_)
  have loop4 : ∀ (fu : Nat) (t : Int32) (k : Nat) (hk : k ≤ nP) (ht : t = q01 (mfen (A 193) a1 k = true)), nP - k < fu → ∀ (H : Heap) (locs : List Loc) (ls : Array Slot), qM E ad S A b (qAr ad s.heap.size) s H locs → lv_has ls 4 [(3, .int (nI k)), (2, .int t), (0, .ref (ad 188)), (1, .int a1)] → W pg l e (headSpec wsX11_hasFence { frames := 1, cells := 0, slots := 0, locals := 21 }).room s m ([.ref (ad 188), .int a1] : List Value).toArray below meth cd H locs 0 0 (MQ below (qQi E ad s.heap.size (fun r S' A' b' => (S = S' ∧ A = A' ∧ b = b') ∧ r = q01 (mfen (A 193) a1 nP = true))) ([.ref (ad 188), .int a1] : List Value).toArray s 0 0 (qAr ad s.heap.size)) (F0 m 4 ls []) := by
    intro fu
    induction fu with
    | zero => intro t k hk ht hn; exact absurd hn (Nat.not_lt_zero _)
    | succ fu ih4 =>
      intro t k hk ht hn H locs ls hM hl
      refine lv_iload_n hx hb dX11_hasFence_4 rfl (lv_at hl 0 rfl) ?_
      refine lv_aload_n hx hb dX11_hasFence_5 rfl (lv_at hl 2 rfl) ?_
      refine q_get (o := 188) (ci := 11) (k := 4) (T := TX11) (v := .int (S 188 4)) C hM (qmem_11 E ad S A b (show qk 188 = 11 from by decide +kernel)) (by decide) rfl hi11 (by decide) hL0 rfl rfl dX11_hasFence_6 ?_
      refine lv_as (y := nI nP) hPo ?_
      refine lv_icmp_ge (tgt := 55) hx hb dX11_hasFence_9 (by decide) (fun c_9 => ?_) (fun c_9 => ?_)
      · skip
        have c_9 : nP ≤ k := (nI_leI (a := nP) (b := k) (by omega) (by omega)).mp c_9
        refine lv_iload_n hx hb dX11_hasFence_55 rfl (lv_at hl 1 rfl) ?_
        exact q_zret C hM dX11_hasFence_56 (by rw [ht]; exact q01_nar _) (by exact ⟨⟨rfl, rfl, rfl⟩, (by rw [ht, show k = nP by omega])⟩)
      · skip
        have c_9 : ¬ (nP ≤ k) := fun z => c_9 ((nI_leI (a := nP) (b := k) (by omega) (by omega)).mpr z)
        refine lv_iload_n hx hb dX11_hasFence_12 rfl (lv_at hl 1 rfl) ?_
        refine lv_if_ne (tgt := 43) hx hb dX11_hasFence_13 (by decide) (fun c_13 => ?_) (fun c_13 => ?_)
        · skip
          refine lv_iconst (v := 1) hx hb dX11_hasFence_43 (by decide) ?_
          refine lv_goto (tgt := 48) hx hb dX11_hasFence_44 (by decide) ?_
          refine lv_istore_n (lv' := [(2, .int 1), (3, .int (nI k)), (0, .ref (ad 188)), (1, .int a1)]) hx hb dX11_hasFence_48 rfl hl (by decide) rfl (fun ls hl => ?_)
          refine lv_iinc (v := nI (k + 1)) (lv' := [(3, .int (nI (k + 1))), (2, .int 1), (0, .ref (ad 188)), (1, .int a1)]) hx hb dX11_hasFence_49 hl (k := 1) rfl (by rw [nI_succ]; rfl) (by decide) rfl (fun ls hl => ?_)
          refine lv_goto (tgt := 4) hx hb dX11_hasFence_52 (by decide) ?_
          exact ih4 1 (k + 1) (by omega) (by have h := q01_ne0.mp (fun z => c_13 (ht.trans z)); simp [mfen, q01, h]) (by omega) _ _ _ hM hl
        · skip
          refine lv_aload_n hx hb dX11_hasFence_16 rfl (lv_at hl 2 rfl) ?_
          refine q_get (o := 188) (ci := 11) (k := 11) (T := TX11) (v := .ref (ad 193)) C hM (qmem_11 E ad S A b (show qk 188 = 11 from by decide +kernel)) (by decide) rfl hi11 (by decide) hL1 rfl rfl dX11_hasFence_17 ?_
          refine lv_bipush (v := 12) hx hb dX11_hasFence_20 (by decide) ?_
          refine lv_iload_n hx hb dX11_hasFence_22 rfl (lv_at hl 0 rfl) ?_
          refine lv_iadd hx hb dX11_hasFence_23 ?_
          refine lv_as (y := nI (12 + k)) (nI_add _ _) ?_
          refine q_iald (v := A 193 (12 + k)) C hM (show qk 193 = 12 from by decide +kernel) (by rw [(show ql 193 = 37 from by decide +kernel)]; exact vp_nI (by omega) (by omega)) (by rw [nIc (by omega)]) dX11_hasFence_24 ?_
          refine lv_iload_n hx hb dX11_hasFence_25 rfl (lv_at hl 3 rfl) ?_
          refine lv_icmp_ne (tgt := 47) hx hb dX11_hasFence_26 (by decide) (fun c_26 => ?_) (fun c_26 => ?_)
          · skip
            refine lv_iconst (v := 0) hx hb dX11_hasFence_47 (by decide) ?_
            refine lv_istore_n (lv' := [(2, .int 0), (3, .int (nI k)), (0, .ref (ad 188)), (1, .int a1)]) hx hb dX11_hasFence_48 rfl hl (by decide) rfl (fun ls hl => ?_)
            refine lv_iinc (v := nI (k + 1)) (lv' := [(3, .int (nI (k + 1))), (2, .int 0), (0, .ref (ad 188)), (1, .int a1)]) hx hb dX11_hasFence_49 hl (k := 1) rfl (by rw [nI_succ]; rfl) (by decide) rfl (fun ls hl => ?_)
            refine lv_goto (tgt := 4) hx hb dX11_hasFence_52 (by decide) ?_
            exact ih4 0 (k + 1) (by omega) (by have h := q01_eq0.mp (ht.symm.trans c_13); simp [mfen, q01, h, c_26]) (by omega) _ _ _ hM hl
          · skip
            refine lv_aload_n hx hb dX11_hasFence_29 rfl (lv_at hl 2 rfl) ?_
            refine q_get (o := 188) (ci := 11) (k := 11) (T := TX11) (v := .ref (ad 193)) C hM (qmem_11 E ad S A b (show qk 188 = 11 from by decide +kernel)) (by decide) rfl hi11 (by decide) hL1 rfl rfl dX11_hasFence_30 ?_
            refine lv_bipush (v := 24) hx hb dX11_hasFence_33 (by decide) ?_
            refine q_iald (v := A 193 24) C hM (show qk 193 = 12 from by decide +kernel) (by rw [(show ql 193 = 37 from by decide +kernel)]; exact (vp_nI (by decide) (by decide) : vp_in (nI 24) 37)) (by rw [show Int32.toNatClampNeg 24 = 24 from by decide]) dX11_hasFence_35 ?_
            refine lv_iload_n hx hb dX11_hasFence_36 rfl (lv_at hl 0 rfl) ?_
            refine q_callSI (n := 2) (As := [.int (A 193 24), .int (nI k)]) (rest := []) C hM hA (c_X11_has E ad l S A b (A 193 24) (nI k)) gX11_hasFence_X11_has rfl rfl rfl (by decide +kernel) ⟨Nat.le_of_ble_eq_true rfl, Nat.le_of_ble_eq_true rfl⟩ rfl hl.1 rfl (Nat.le_of_ble_eq_true rfl) ⟨Nat.zero_le _, Nat.zero_le _⟩ dX11_hasFence_37 (fun r_1 S_2 A_3 b_4 H locs qr_1 hM => ?_)
            obtain ⟨⟨e1, e2, e3⟩, er_1⟩ := qr_1
            subst e1; subst e2; subst e3
            refine lv_if_eq (tgt := 47) hx hb dX11_hasFence_40 (by decide) (fun c_40 => ?_) (fun c_40 => ?_)
            · skip
              refine lv_iconst (v := 0) hx hb dX11_hasFence_47 (by decide) ?_
              refine lv_istore_n (lv' := [(2, .int 0), (3, .int (nI k)), (0, .ref (ad 188)), (1, .int a1)]) hx hb dX11_hasFence_48 rfl hl (by decide) rfl (fun ls hl => ?_)
              refine lv_iinc (v := nI (k + 1)) (lv' := [(3, .int (nI (k + 1))), (2, .int 0), (0, .ref (ad 188)), (1, .int a1)]) hx hb dX11_hasFence_49 hl (k := 1) rfl (by rw [nI_succ]; rfl) (by decide) rfl (fun ls hl => ?_)
              refine lv_goto (tgt := 4) hx hb dX11_hasFence_52 (by decide) ?_
              exact ih4 0 (k + 1) (by omega) (by have h := q01_eq0.mp (ht.symm.trans c_13); unfold mfen; rw [er_1, q01_eq0] at c_40; simp [q01, h, Classical.not_not.mp c_40]) (by omega) _ _ _ hM hl
            · skip
              refine lv_iconst (v := 1) hx hb dX11_hasFence_43 (by decide) ?_
              refine lv_goto (tgt := 48) hx hb dX11_hasFence_44 (by decide) ?_
              refine lv_istore_n (lv' := [(2, .int 1), (3, .int (nI k)), (0, .ref (ad 188)), (1, .int a1)]) hx hb dX11_hasFence_48 rfl hl (by decide) rfl (fun ls hl => ?_)
              refine lv_iinc (v := nI (k + 1)) (lv' := [(3, .int (nI (k + 1))), (2, .int 1), (0, .ref (ad 188)), (1, .int a1)]) hx hb dX11_hasFence_49 hl (k := 1) rfl (by rw [nI_succ]; rfl) (by decide) rfl (fun ls hl => ?_)
              refine lv_goto (tgt := 4) hx hb dX11_hasFence_52 (by decide) ?_
              exact ih4 1 (k + 1) (by omega) (by have h := q01_eq0.mp (ht.symm.trans c_13); unfold mfen; rw [er_1, q01_eq0] at c_40; simp [q01, h, c_26, Classical.not_not.mp c_40]) (by omega) _ _ _ hM hl
  exact loop4 (nP - 0 + 1) 0 0 (by omega) rfl (Nat.lt_succ_self _) _ _ _ hM hl

set_option maxHeartbeats 4000000 in
set_option maxRecDepth 100000 in
theorem c_X11_lay (E : qE) (ad : Nat → Nat) (l : Launch) (S A : qA2) (b : qB) (na : Nat) (hna : na < 12) (a2 : Int32) : MV E ad l yX11_lay wsX11_lay { frames := 1, cells := 0, slots := 0, locals := 21 } [.ref (ad 188), .int (nI na), .int a2] S A b (fun S' A' b' => (S = S' ∧ b = b') ∧ A' = q2 A 193 na (qmin9 (A 193 na + a2))) := by
  refine MV.of (cc := cX11_lay) (maxL := 3) (ret := none) RX11 rfl (by decide) rfl ?_
  intro pg e s m below meth cd C hM
  have hx := C.1
  have hb := C.2.1
  have hts := C.2.2.2.2.1
  have hA : ∀ q, s.heap.size ≤ q → qAr ad s.heap.size q := fun _ h => Or.inr h
  have hi11 : ∀ w ∈ u_ws RX11 TX11 45, w ∈ wsX11_lay := by decide +kernel
  have hL0 := hts (.fieldLink RX11 22 "CrowFencesModel" "now" "[I") (by decide +kernel)
  have hl := lv_entry ([.ref (ad 188), .int (nI na), .int a2]) (n := 3) (Nat.le_of_ble_eq_true rfl)
  rw [lg_entry_eq]
  generalize (lg_sl ([.ref (ad 188), .int (nI na), .int a2]) ++ List.replicate (3 - (lg_sl ([.ref (ad 188), .int (nI na), .int a2])).length) Slot.unset).toArray = ls at hl ⊢
  have hl : lv_has ls 3 [(0, .ref (ad 188)), (1, .int (nI na)), (2, .int a2)] := hl
  refine lv_aload_n hx hb dX11_lay_0 rfl (lv_at hl 0 rfl) ?_
  refine q_get (o := 188) (ci := 11) (k := 11) (T := TX11) (v := .ref (ad 193)) C hM (qmem_11 E ad S A b (show qk 188 = 11 from by decide +kernel)) (by decide) rfl hi11 (by decide) hL0 rfl rfl dX11_lay_1 ?_
  refine lv_iload_n hx hb dX11_lay_4 rfl (lv_at hl 1 rfl) ?_
  refine lv_aload_n hx hb dX11_lay_5 rfl (lv_at hl 0 rfl) ?_
  refine q_get (o := 188) (ci := 11) (k := 11) (T := TX11) (v := .ref (ad 193)) C hM (qmem_11 E ad S A b (show qk 188 = 11 from by decide +kernel)) (by decide) rfl hi11 (by decide) hL0 rfl rfl dX11_lay_6 ?_
  refine lv_iload_n hx hb dX11_lay_9 rfl (lv_at hl 1 rfl) ?_
  refine q_iald (v := A 193 na) C hM (show qk 193 = 12 from by decide +kernel) (by rw [(show ql 193 = 37 from by decide +kernel)]; exact vp_nI (by omega) (by omega)) (by rw [nIc (by omega)]) dX11_lay_10 ?_
  refine lv_iload_n hx hb dX11_lay_11 rfl (lv_at hl 2 rfl) ?_
  refine lv_iadd hx hb dX11_lay_12 ?_
  refine lv_sipush (v := 9999) hx hb dX11_lay_13 (by decide) ?_
  refine q_callSI (n := 2) (As := [.int ((A 193 na) + a2), .int 9999]) (rest := [.int (nI na), .ref (ad 193)]) C hM hA (c_X11_atMost E ad l S A b ((A 193 na) + a2) 9999) gX11_lay_X11_atMost rfl rfl rfl (by decide +kernel) ⟨Nat.le_of_ble_eq_true rfl, Nat.le_of_ble_eq_true rfl⟩ rfl hl.1 rfl (Nat.le_of_ble_eq_true rfl) ⟨Nat.zero_le _, Nat.zero_le _⟩ dX11_lay_16 (fun r_1 S_2 A_3 b_4 H locs qr_1 hM => ?_)
  obtain ⟨⟨e1, e2, e3⟩, er_1⟩ := qr_1
  subst e1; subst e2; subst e3
  refine q_iast C hM (show qk 193 = 12 from by decide +kernel) (by rw [(show ql 193 = 37 from by decide +kernel)]; exact vp_nI (by omega) (by omega)) dX11_lay_19 (fun H locs hM => ?_)
  rw [nIc (by omega)] at hM
  obtain ⟨A_5, eA_5⟩ : ∃ zz, zz = q2 A 193 na r_1 := ⟨_, rfl⟩
  rw [← eA_5] at hM
  exact q_vret C hM dX11_lay_20 (by exact ⟨⟨rfl, rfl⟩, by rw [eA_5, er_1]; rfl⟩)

set_option maxHeartbeats 4000000 in
set_option maxRecDepth 100000 in
theorem c_X11_blow (E : qE) (ad : Nat → Nat) (l : Launch) (S A : qA2) (b : qB) (a1 a2 : Int32) (nC : Nat) (hC : S 188 0 = nI nC) (hCb : nC ≤ 12) (nP : Nat) (hPo : S 188 4 = nI nP) (hPb : nP ≤ 6) : MV E ad l yX11_blow wsX11_blow { frames := 2, cells := 0, slots := 0, locals := 44 } [.ref (ad 188), .int a1, .int a2] S A b (fun S' A' b' => (S = S' ∧ b = b') ∧ A' 193 = (qbl nC (a1 ≤ 0) a2 (fun i => mfen (A 193) (nI i) nP = true) (A 193) nC).1 ∧ ∀ i, i ≠ 193 → A' i = A i) := by
  refine MV.of (cc := cX11_blow) (maxL := 7) (ret := none) RX11 rfl (by decide) rfl ?_
  intro pg e s m below meth cd C hM
  have hx := C.1
  have hb := C.2.1
  have hts := C.2.2.2.2.1
  have hA : ∀ q, s.heap.size ≤ q → qAr ad s.heap.size q := fun _ h => Or.inr h
  have hi11 : ∀ w ∈ u_ws RX11 TX11 45, w ∈ wsX11_blow := by decide +kernel
  have hL0 := hts (.fieldLink RX11 90 "CrowFencesModel" "cells" "I") (by decide +kernel)
  have hl := lv_entry ([.ref (ad 188), .int a1, .int a2]) (n := 7) (Nat.le_of_ble_eq_true rfl)
  rw [lg_entry_eq]
  generalize (lg_sl ([.ref (ad 188), .int a1, .int a2]) ++ List.replicate (7 - (lg_sl ([.ref (ad 188), .int a1, .int a2])).length) Slot.unset).toArray = ls at hl ⊢
  have hl : lv_has ls 7 [(0, .ref (ad 188)), (1, .int a1), (2, .int a2)] := hl
  refine lv_iconst (v := 0) hx hb dX11_blow_0 (by decide) ?_
  refine lv_istore_n (lv' := [(3, .int 0), (0, .ref (ad 188)), (1, .int a1), (2, .int a2)]) hx hb dX11_blow_1 rfl hl (by decide) rfl (fun ls hl => ?_)
  refine lv_iconst (v := 0) hx hb dX11_blow_2 (by decide) ?_
  refine lv_istore (lv' := [(4, .int 0), (3, .int 0), (0, .ref (ad 188)), (1, .int a1), (2, .int a2)]) hx hb dX11_blow_3 hl (by decide) rfl (fun ls hl => ?_)
  have loop5 : ∀ (fu : Nat) (bl : Int32) (k : Nat) (A5 : qA2) (hk : k ≤ nC) (hr : (A5 193, bl) = qbl nC (a1 ≤ 0) a2 (fun i => mfen (A 193) (nI i) nP = true) (A 193) k) (hf : ∀ i, i ≠ 193 → A5 i = A i), nC - k < fu → ∀ (H : Heap) (locs : List Loc) (ls : Array Slot), qM E ad S A5 b (qAr ad s.heap.size) s H locs → lv_has ls 7 [(4, .int (nI k)), (3, .int bl), (0, .ref (ad 188)), (1, .int a1), (2, .int a2)] → W pg l e (headSpec wsX11_blow { frames := 2, cells := 0, slots := 0, locals := 44 }).room s m ([.ref (ad 188), .int a1, .int a2] : List Value).toArray below meth cd H locs 0 0 (MQ below (qQv E ad s.heap.size (fun S' A' b' => (S = S' ∧ b = b') ∧ A' 193 = (qbl nC (a1 ≤ 0) a2 (fun i => mfen (A 193) (nI i) nP = true) (A 193) nC).1 ∧ ∀ i, i ≠ 193 → A' i = A i)) ([.ref (ad 188), .int a1, .int a2] : List Value).toArray s 0 0 (qAr ad s.heap.size)) (F0 m 5 ls []) := by
    intro fu
    induction fu with
    | zero => intro bl k A5 hk hr hf hn; exact absurd hn (Nat.not_lt_zero _)
    | succ fu ih5 =>
      intro bl k A5 hk hr hf hn H locs ls hM hl
      refine lv_iload hx hb dX11_blow_5 (lv_at hl 0 rfl) ?_
      refine lv_aload_n hx hb dX11_blow_7 rfl (lv_at hl 2 rfl) ?_
      refine q_get (o := 188) (ci := 11) (k := 0) (T := TX11) (v := .int (S 188 0)) C hM (qmem_11 E ad S A5 b (show qk 188 = 11 from by decide +kernel)) (by decide) rfl hi11 (by decide) hL0 rfl rfl dX11_blow_8 ?_
      refine lv_as (y := nI nC) hC ?_
      refine lv_icmp_ge (tgt := 75) hx hb dX11_blow_11 (by decide) (fun c_11 => ?_) (fun c_11 => ?_)
      · skip
        have c_11 : nC ≤ k := (nI_leI (a := nC) (b := k) (by omega) (by omega)).mp c_11
        exact q_vret C hM dX11_blow_75 (by exact ⟨⟨rfl, rfl⟩, by rw [show A5 193 = _ from congrArg Prod.fst hr, show k = nC by omega], hf⟩)
      · skip
        have c_11 : ¬ (nC ≤ k) := fun z => c_11 ((nI_leI (a := nC) (b := k) (by omega) (by omega)).mpr z)
        refine lv_iload_n hx hb dX11_blow_14 rfl (lv_at hl 3 rfl) ?_
        refine lv_if_le (tgt := 23) hx hb dX11_blow_15 (by decide) (fun c_15 => ?_) (fun c_15 => ?_)
        · skip
          refine lv_aload_n hx hb dX11_blow_23 rfl (lv_at hl 2 rfl) ?_
          refine q_get (o := 188) (ci := 11) (k := 0) (T := TX11) (v := .int (S 188 0)) C hM (qmem_11 E ad S A5 b (show qk 188 = 11 from by decide +kernel)) (by decide) rfl hi11 (by decide) hL0 rfl rfl dX11_blow_24 ?_
          refine lv_as (y := nI nC) hC ?_
          refine lv_iconst (v := 1) hx hb dX11_blow_27 (by decide) ?_
          refine lv_isub hx hb dX11_blow_28 ?_
          refine lv_as (y := nI (nC - 1)) (pk_sub (a := nC) (b := 1) (by omega)) ?_
          refine lv_iload hx hb dX11_blow_29 (lv_at hl 0 rfl) ?_
          refine lv_isub hx hb dX11_blow_31 ?_
          refine lv_as (y := nI ((nC - 1) - k)) (pk_sub (a := nC - 1) (b := k) (by omega)) ?_
          refine lv_istore (lv' := [(5, .int (nI ((nC - 1) - k))), (4, .int (nI k)), (3, .int bl), (0, .ref (ad 188)), (1, .int a1), (2, .int a2)]) hx hb dX11_blow_32 hl (by decide) rfl (fun ls hl => ?_)
          refine lv_iload_n hx hb dX11_blow_34 rfl (lv_at hl 2 rfl) ?_
          refine lv_iload_n hx hb dX11_blow_35 rfl (lv_at hl 5 rfl) ?_
          refine lv_iadd hx hb dX11_blow_36 ?_
          refine lv_topi (fun x3_1 ex3_1 => ?_)
          refine lv_istore_n (lv' := [(3, .int x3_1), (5, .int (nI ((nC - 1) - k))), (4, .int (nI k)), (0, .ref (ad 188)), (1, .int a1), (2, .int a2)]) hx hb dX11_blow_37 rfl hl (by decide) rfl (fun ls hl => ?_)
          refine lv_aload_n hx hb dX11_blow_38 rfl (lv_at hl 3 rfl) ?_
          refine lv_iload hx hb dX11_blow_39 (lv_at hl 1 rfl) ?_
          refine q_callVI (n := 1) (o := 188) (As := [.int (nI ((nC - 1) - k))]) (rest := []) C hM hA (c_X11_hasFence E ad l S A5 b (nI ((nC - 1) - k)) nP hPo (by omega)) (qmem_11 E ad S A5 b (show qk 188 = 11 from by decide +kernel)) (by decide) rfl gX11_blow_X11_hasFence rfl rfl rfl (by decide +kernel) ⟨Nat.le_of_ble_eq_true rfl, Nat.le_of_ble_eq_true rfl⟩ rfl hl.1 rfl (Nat.le_of_ble_eq_true rfl) ⟨Nat.zero_le _, Nat.zero_le _⟩ dX11_blow_41 (fun r_2 S_3 A_4 b_5 H locs qr_2 hM => ?_)
          obtain ⟨⟨e1, e2, e3⟩, er_2⟩ := qr_2
          subst e1; subst e2; subst e3
          refine lv_if_eq (tgt := 51) hx hb dX11_blow_44 (by decide) (fun c_44 => ?_) (fun c_44 => ?_)
          · skip
            refine lv_iload_n hx hb dX11_blow_51 rfl (lv_at hl 0 rfl) ?_
            refine lv_iconst (v := 2) hx hb dX11_blow_52 (by decide) ?_
            refine lv_idiv hx hb dX11_blow_53 (by decide) ?_
            refine lv_topi (fun x6_6 ex6_6 => ?_)
            refine lv_istore (lv' := [(6, .int x6_6), (3, .int x3_1), (5, .int (nI ((nC - 1) - k))), (4, .int (nI k)), (0, .ref (ad 188)), (1, .int a1), (2, .int a2)]) hx hb dX11_blow_54 hl (by decide) rfl (fun ls hl => ?_)
            refine lv_aload_n hx hb dX11_blow_56 rfl (lv_at hl 4 rfl) ?_
            refine lv_iload hx hb dX11_blow_57 (lv_at hl 2 rfl) ?_
            refine lv_iload hx hb dX11_blow_59 (lv_at hl 0 rfl) ?_
            refine q_callVV (n := 2) (o := 188) (As := [.int (nI ((nC - 1) - k)), .int x6_6]) (rest := []) C hM hA (c_X11_lay E ad l S A5 b ((nC - 1) - k) (by omega) x6_6) (qmem_11 E ad S A5 b (show qk 188 = 11 from by decide +kernel)) (by decide) rfl gX11_blow_X11_lay rfl rfl rfl (by decide +kernel) ⟨Nat.le_of_ble_eq_true rfl, Nat.le_of_ble_eq_true rfl⟩ rfl hl.1 rfl (Nat.le_of_ble_eq_true rfl) ⟨Nat.zero_le _, Nat.zero_le _⟩ dX11_blow_61 (fun S_8 A_9 b_10 H locs qr_7 hM => ?_)
            obtain ⟨⟨e1, e3⟩, eA_9⟩ := qr_7
            subst e1; subst e3
            refine lv_iload_n hx hb dX11_blow_64 rfl (lv_at hl 1 rfl) ?_
            refine lv_iload hx hb dX11_blow_65 (lv_at hl 0 rfl) ?_
            refine lv_isub hx hb dX11_blow_67 ?_
            refine lv_topi (fun x3_11 ex3_11 => ?_)
            refine lv_istore_n (lv' := [(3, .int x3_11), (6, .int x6_6), (5, .int (nI ((nC - 1) - k))), (4, .int (nI k)), (0, .ref (ad 188)), (1, .int a1), (2, .int a2)]) hx hb dX11_blow_68 rfl hl (by decide) rfl (fun ls hl => ?_)
            refine lv_iinc (v := nI (k + 1)) (lv' := [(4, .int (nI (k + 1))), (3, .int x3_11), (6, .int x6_6), (5, .int (nI ((nC - 1) - k))), (0, .ref (ad 188)), (1, .int a1), (2, .int a2)]) hx hb dX11_blow_69 hl (k := 3) rfl (by rw [nI_succ]; rfl) (by decide) rfl (fun ls hl => ?_)
            refine lv_goto (tgt := 5) hx hb dX11_blow_72 (by decide) ?_
            exact ih5 x3_11 (k + 1) A_9 (by omega) (by have hmf : ∀ z, mfen (A5 193) z nP = mfen (A 193) z nP := fun z => mfen_cong (fun j hj => by rw [show A5 193 = _ from congrArg Prod.fst hr]; exact qbl_out _ hk j (by omega)) nP; have hkp := q01_eq0.mp (er_2.symm.trans c_44); rw [hmf] at hkp; simp only [qbl, ← hr]; rw [if_pos c_15, if_neg (show ¬ mfen (A 193) (nI (nC - 1 - k)) nP = true from hkp), eA_9, q2_row]; subst_vars; rw [Int32.add_comm bl a2]) (by rw [eA_9]; exact qfr_up hf) (by omega) _ _ _ hM (lv_sub hl [0, 1, 4, 5, 6] rfl)
          · skip
            refine lv_iload_n hx hb dX11_blow_47 rfl (lv_at hl 0 rfl) ?_
            refine lv_goto (tgt := 54) hx hb dX11_blow_48 (by decide) ?_
            refine lv_istore (lv' := [(6, .int x3_1), (3, .int x3_1), (5, .int (nI ((nC - 1) - k))), (4, .int (nI k)), (0, .ref (ad 188)), (1, .int a1), (2, .int a2)]) hx hb dX11_blow_54 hl (by decide) rfl (fun ls hl => ?_)
            refine lv_aload_n hx hb dX11_blow_56 rfl (lv_at hl 4 rfl) ?_
            refine lv_iload hx hb dX11_blow_57 (lv_at hl 2 rfl) ?_
            refine lv_iload hx hb dX11_blow_59 (lv_at hl 0 rfl) ?_
            refine q_callVV (n := 2) (o := 188) (As := [.int (nI ((nC - 1) - k)), .int x3_1]) (rest := []) C hM hA (c_X11_lay E ad l S A5 b ((nC - 1) - k) (by omega) x3_1) (qmem_11 E ad S A5 b (show qk 188 = 11 from by decide +kernel)) (by decide) rfl gX11_blow_X11_lay rfl rfl rfl (by decide +kernel) ⟨Nat.le_of_ble_eq_true rfl, Nat.le_of_ble_eq_true rfl⟩ rfl hl.1 rfl (Nat.le_of_ble_eq_true rfl) ⟨Nat.zero_le _, Nat.zero_le _⟩ dX11_blow_61 (fun S_13 A_14 b_15 H locs qr_12 hM => ?_)
            obtain ⟨⟨e1, e3⟩, eA_14⟩ := qr_12
            subst e1; subst e3
            refine lv_iload_n hx hb dX11_blow_64 rfl (lv_at hl 1 rfl) ?_
            refine lv_iload hx hb dX11_blow_65 (lv_at hl 0 rfl) ?_
            refine lv_isub hx hb dX11_blow_67 ?_
            refine lv_topi (fun x3_16 ex3_16 => ?_)
            refine lv_istore_n (lv' := [(3, .int x3_16), (6, .int x3_1), (5, .int (nI ((nC - 1) - k))), (4, .int (nI k)), (0, .ref (ad 188)), (1, .int a1), (2, .int a2)]) hx hb dX11_blow_68 rfl hl (by decide) rfl (fun ls hl => ?_)
            refine lv_iinc (v := nI (k + 1)) (lv' := [(4, .int (nI (k + 1))), (3, .int x3_16), (6, .int x3_1), (5, .int (nI ((nC - 1) - k))), (0, .ref (ad 188)), (1, .int a1), (2, .int a2)]) hx hb dX11_blow_69 hl (k := 3) rfl (by rw [nI_succ]; rfl) (by decide) rfl (fun ls hl => ?_)
            refine lv_goto (tgt := 5) hx hb dX11_blow_72 (by decide) ?_
            exact ih5 x3_16 (k + 1) A_14 (by omega) (by have hmf : ∀ z, mfen (A5 193) z nP = mfen (A 193) z nP := fun z => mfen_cong (fun j hj => by rw [show A5 193 = _ from congrArg Prod.fst hr]; exact qbl_out _ hk j (by omega)) nP; have hkp := q01_ne0.mp (fun z => c_44 (er_2.trans z)); rw [hmf] at hkp; simp only [qbl, ← hr]; rw [if_pos c_15, if_pos (show mfen (A 193) (nI (nC - 1 - k)) nP = true from hkp), eA_14, q2_row]; subst_vars; rw [Int32.add_comm bl a2]) (by rw [eA_14]; exact qfr_up hf) (by omega) _ _ _ hM (lv_sub hl [0, 1, 4, 5, 6] rfl)
        · skip
          refine lv_iload hx hb dX11_blow_18 (lv_at hl 0 rfl) ?_
          refine lv_goto (tgt := 32) hx hb dX11_blow_20 (by decide) ?_
          refine lv_istore (lv' := [(5, .int (nI k)), (4, .int (nI k)), (3, .int bl), (0, .ref (ad 188)), (1, .int a1), (2, .int a2)]) hx hb dX11_blow_32 hl (by decide) rfl (fun ls hl => ?_)
          refine lv_iload_n hx hb dX11_blow_34 rfl (lv_at hl 2 rfl) ?_
          refine lv_iload_n hx hb dX11_blow_35 rfl (lv_at hl 5 rfl) ?_
          refine lv_iadd hx hb dX11_blow_36 ?_
          refine lv_topi (fun x3_17 ex3_17 => ?_)
          refine lv_istore_n (lv' := [(3, .int x3_17), (5, .int (nI k)), (4, .int (nI k)), (0, .ref (ad 188)), (1, .int a1), (2, .int a2)]) hx hb dX11_blow_37 rfl hl (by decide) rfl (fun ls hl => ?_)
          refine lv_aload_n hx hb dX11_blow_38 rfl (lv_at hl 3 rfl) ?_
          refine lv_iload hx hb dX11_blow_39 (lv_at hl 1 rfl) ?_
          refine q_callVI (n := 1) (o := 188) (As := [.int (nI k)]) (rest := []) C hM hA (c_X11_hasFence E ad l S A5 b (nI k) nP hPo (by omega)) (qmem_11 E ad S A5 b (show qk 188 = 11 from by decide +kernel)) (by decide) rfl gX11_blow_X11_hasFence rfl rfl rfl (by decide +kernel) ⟨Nat.le_of_ble_eq_true rfl, Nat.le_of_ble_eq_true rfl⟩ rfl hl.1 rfl (Nat.le_of_ble_eq_true rfl) ⟨Nat.zero_le _, Nat.zero_le _⟩ dX11_blow_41 (fun r_18 S_19 A_20 b_21 H locs qr_18 hM => ?_)
          obtain ⟨⟨e1, e2, e3⟩, er_18⟩ := qr_18
          subst e1; subst e2; subst e3
          refine lv_if_eq (tgt := 51) hx hb dX11_blow_44 (by decide) (fun c_44 => ?_) (fun c_44 => ?_)
          · skip
            refine lv_iload_n hx hb dX11_blow_51 rfl (lv_at hl 0 rfl) ?_
            refine lv_iconst (v := 2) hx hb dX11_blow_52 (by decide) ?_
            refine lv_idiv hx hb dX11_blow_53 (by decide) ?_
            refine lv_topi (fun x6_22 ex6_22 => ?_)
            refine lv_istore (lv' := [(6, .int x6_22), (3, .int x3_17), (5, .int (nI k)), (4, .int (nI k)), (0, .ref (ad 188)), (1, .int a1), (2, .int a2)]) hx hb dX11_blow_54 hl (by decide) rfl (fun ls hl => ?_)
            refine lv_aload_n hx hb dX11_blow_56 rfl (lv_at hl 4 rfl) ?_
            refine lv_iload hx hb dX11_blow_57 (lv_at hl 2 rfl) ?_
            refine lv_iload hx hb dX11_blow_59 (lv_at hl 0 rfl) ?_
            refine q_callVV (n := 2) (o := 188) (As := [.int (nI k), .int x6_22]) (rest := []) C hM hA (c_X11_lay E ad l S A5 b k (by omega) x6_22) (qmem_11 E ad S A5 b (show qk 188 = 11 from by decide +kernel)) (by decide) rfl gX11_blow_X11_lay rfl rfl rfl (by decide +kernel) ⟨Nat.le_of_ble_eq_true rfl, Nat.le_of_ble_eq_true rfl⟩ rfl hl.1 rfl (Nat.le_of_ble_eq_true rfl) ⟨Nat.zero_le _, Nat.zero_le _⟩ dX11_blow_61 (fun S_24 A_25 b_26 H locs qr_23 hM => ?_)
            obtain ⟨⟨e1, e3⟩, eA_25⟩ := qr_23
            subst e1; subst e3
            refine lv_iload_n hx hb dX11_blow_64 rfl (lv_at hl 1 rfl) ?_
            refine lv_iload hx hb dX11_blow_65 (lv_at hl 0 rfl) ?_
            refine lv_isub hx hb dX11_blow_67 ?_
            refine lv_topi (fun x3_27 ex3_27 => ?_)
            refine lv_istore_n (lv' := [(3, .int x3_27), (6, .int x6_22), (5, .int (nI k)), (4, .int (nI k)), (0, .ref (ad 188)), (1, .int a1), (2, .int a2)]) hx hb dX11_blow_68 rfl hl (by decide) rfl (fun ls hl => ?_)
            refine lv_iinc (v := nI (k + 1)) (lv' := [(4, .int (nI (k + 1))), (3, .int x3_27), (6, .int x6_22), (5, .int (nI k)), (0, .ref (ad 188)), (1, .int a1), (2, .int a2)]) hx hb dX11_blow_69 hl (k := 3) rfl (by rw [nI_succ]; rfl) (by decide) rfl (fun ls hl => ?_)
            refine lv_goto (tgt := 5) hx hb dX11_blow_72 (by decide) ?_
            exact ih5 x3_27 (k + 1) A_25 (by omega) (by have hmf : ∀ z, mfen (A5 193) z nP = mfen (A 193) z nP := fun z => mfen_cong (fun j hj => by rw [show A5 193 = _ from congrArg Prod.fst hr]; exact qbl_out _ hk j (by omega)) nP; have hkp := q01_eq0.mp (er_18.symm.trans c_44); rw [hmf] at hkp; simp only [qbl, ← hr]; rw [if_neg c_15, if_neg (show ¬ mfen (A 193) (nI k) nP = true from hkp), eA_25, q2_row]; subst_vars; rw [Int32.add_comm bl a2]) (by rw [eA_25]; exact qfr_up hf) (by omega) _ _ _ hM (lv_sub hl [0, 1, 4, 5, 6] rfl)
          · skip
            refine lv_iload_n hx hb dX11_blow_47 rfl (lv_at hl 0 rfl) ?_
            refine lv_goto (tgt := 54) hx hb dX11_blow_48 (by decide) ?_
            refine lv_istore (lv' := [(6, .int x3_17), (3, .int x3_17), (5, .int (nI k)), (4, .int (nI k)), (0, .ref (ad 188)), (1, .int a1), (2, .int a2)]) hx hb dX11_blow_54 hl (by decide) rfl (fun ls hl => ?_)
            refine lv_aload_n hx hb dX11_blow_56 rfl (lv_at hl 4 rfl) ?_
            refine lv_iload hx hb dX11_blow_57 (lv_at hl 2 rfl) ?_
            refine lv_iload hx hb dX11_blow_59 (lv_at hl 0 rfl) ?_
            refine q_callVV (n := 2) (o := 188) (As := [.int (nI k), .int x3_17]) (rest := []) C hM hA (c_X11_lay E ad l S A5 b k (by omega) x3_17) (qmem_11 E ad S A5 b (show qk 188 = 11 from by decide +kernel)) (by decide) rfl gX11_blow_X11_lay rfl rfl rfl (by decide +kernel) ⟨Nat.le_of_ble_eq_true rfl, Nat.le_of_ble_eq_true rfl⟩ rfl hl.1 rfl (Nat.le_of_ble_eq_true rfl) ⟨Nat.zero_le _, Nat.zero_le _⟩ dX11_blow_61 (fun S_29 A_30 b_31 H locs qr_28 hM => ?_)
            obtain ⟨⟨e1, e3⟩, eA_30⟩ := qr_28
            subst e1; subst e3
            refine lv_iload_n hx hb dX11_blow_64 rfl (lv_at hl 1 rfl) ?_
            refine lv_iload hx hb dX11_blow_65 (lv_at hl 0 rfl) ?_
            refine lv_isub hx hb dX11_blow_67 ?_
            refine lv_topi (fun x3_32 ex3_32 => ?_)
            refine lv_istore_n (lv' := [(3, .int x3_32), (6, .int x3_17), (5, .int (nI k)), (4, .int (nI k)), (0, .ref (ad 188)), (1, .int a1), (2, .int a2)]) hx hb dX11_blow_68 rfl hl (by decide) rfl (fun ls hl => ?_)
            refine lv_iinc (v := nI (k + 1)) (lv' := [(4, .int (nI (k + 1))), (3, .int x3_32), (6, .int x3_17), (5, .int (nI k)), (0, .ref (ad 188)), (1, .int a1), (2, .int a2)]) hx hb dX11_blow_69 hl (k := 3) rfl (by rw [nI_succ]; rfl) (by decide) rfl (fun ls hl => ?_)
            refine lv_goto (tgt := 5) hx hb dX11_blow_72 (by decide) ?_
            exact ih5 x3_32 (k + 1) A_30 (by omega) (by have hmf : ∀ z, mfen (A5 193) z nP = mfen (A 193) z nP := fun z => mfen_cong (fun j hj => by rw [show A5 193 = _ from congrArg Prod.fst hr]; exact qbl_out _ hk j (by omega)) nP; have hkp := q01_ne0.mp (fun z => c_44 (er_18.trans z)); rw [hmf] at hkp; simp only [qbl, ← hr]; rw [if_neg c_15, if_pos (show mfen (A 193) (nI k) nP = true from hkp), eA_30, q2_row]; subst_vars; rw [Int32.add_comm bl a2]) (by rw [eA_30]; exact qfr_up hf) (by omega) _ _ _ hM (lv_sub hl [0, 1, 4, 5, 6] rfl)
  exact loop5 (nC - 0 + 1) 0 0 A (by omega) rfl (fun _ _ => rfl) (Nat.lt_succ_self _) _ _ _ hM hl
