set_option maxHeartbeats 4000000 in
set_option maxRecDepth 100000 in
theorem c_X11_feed (E : qE) (ad : Nat → Nat) (l : Launch) (S A : qA2) (b : qB) (a1 : Int32) (n : Nat) (hln : S 188 14 = nI n) (hnb : n ≤ 240) : MI E ad l yX11_feed wsX11_feed { frames := 1, cells := 0, slots := 0, locals := 25 } [.ref (ad 188), .int a1] S A b (fun r S' A' b' => b = b' ∧ ((¬ (qir a1 0 255).elim (-1000000002) (fun _ => if n < 240 then 0 else (-1000000004)) = 0 ∧ r = (qir a1 0 255).elim (-1000000002) (fun _ => if n < 240 then 0 else (-1000000004)) ∧ S = S' ∧ A = A') ∨ ((qir a1 0 255).elim (-1000000002) (fun _ => if n < 240 then 0 else (-1000000004)) = 0 ∧ ∃ k, k ≤ 255 ∧ a1 = nI k ∧ r = nI (n + 1) ∧ S' = q2 S 188 14 (nI (n + 1)) ∧ A' = q2 A 194 n (nI k)))) := by
  refine MI.of (cc := cX11_feed) (maxL := 2) (ret := some .int) RX11 rfl (by decide) rfl ?_
  intro pg e s m below meth cd C hM
  have hx := C.1
  have hb := C.2.1
  have hts := C.2.2.2.2.1
  have hA : ∀ q, s.heap.size ≤ q → qAr ad s.heap.size q := fun _ h => Or.inr h
  have hi11 : ∀ w ∈ u_ws RX11 TX11 45, w ∈ wsX11_feed := by decide +kernel
  have hL0 := hts (.constantLong RX11 103 (255)) (by decide +kernel)
  have hL1 := hts (.fieldLink RX11 106 "CrowFencesModel" "texted" "I") (by decide +kernel)
  have hL2 := hts (.fieldLink RX11 25 "CrowFencesModel" "text" "[I") (by decide +kernel)
  have hL3 := hts (.constant RX11 109 (-1000000004)) (by decide +kernel)
  have hL4 := hts (.constant RX11 105 (-1000000002)) (by decide +kernel)
  have hl := lv_entry ([.ref (ad 188), .int a1]) (n := 2) (Nat.le_of_ble_eq_true rfl)
  rw [lg_entry_eq]
  generalize (lg_sl ([.ref (ad 188), .int a1]) ++ List.replicate (2 - (lg_sl ([.ref (ad 188), .int a1])).length) Slot.unset).toArray = ls at hl ⊢
  have hl : lv_has ls 2 [(0, .ref (ad 188)), (1, .int a1)] := hl
  refine lv_iload_n hx hb dX11_feed_0 rfl (lv_at hl 1 rfl) ?_
  refine lv_i2l (v := (a1 : Int32).toInt64) hx hb dX11_feed_1 rfl ?_
  refine lv_lconst (v := 0) hx hb dX11_feed_2 rfl ?_
  refine lv_ldc2 (v := 255) hx hb C.2.2.2.1 hL0 dX11_feed_3 ?_
  refine q_callSI (n := 3) (As := [.long ((a1 : Int32).toInt64), .long 0, .long 255]) (rest := []) C hM hA (c_X11_in E ad l S A b ((a1 : Int32).toInt64) 0 255) gX11_feed_X11_in rfl rfl rfl (by decide +kernel) ⟨Nat.le_of_ble_eq_true rfl, Nat.le_of_ble_eq_true rfl⟩ rfl hl.1 rfl (Nat.le_of_ble_eq_true rfl) ⟨Nat.zero_le _, Nat.zero_le _⟩ dX11_feed_6 (fun r_1 S_2 A_3 b_4 H locs qr_1 hM => ?_)
  obtain ⟨⟨e1, e2, e3⟩, er_1⟩ := qr_1
  subst e1; subst e2; subst e3
  rw [q64 (x := a1) (lo := 0) (hi := 255) (by first | rfl | decide) (by first | rfl | decide)] at er_1
  rcases q01_cases (0 ≤ a1 ∧ a1 ≤ 255) with ⟨hzr_1, hir_1⟩ | ⟨hzr_1, hir_1⟩
  · skip
    rw [hzr_1] at er_1
    subst er_1
    obtain ⟨ka1, hloka1, hhika1, eka1⟩ := qin_of (l := 0) (h := 255) rfl rfl (by omega) (by omega) hir_1
    subst eka1
    refine lv_if_ne (tgt := 15) hx hb dX11_feed_9 (by decide) (fun c_9 => ?_) (fun c_9 => ?_)
    · skip
      have c_9 : ¬ (1 = 0) := fun z => c_9 ((nI_eq (a := 1) (b := 0) (by omega) (by omega)).mpr z)
      refine lv_aload_n hx hb dX11_feed_15 rfl (lv_at hl 0 rfl) ?_
      refine q_get (o := 188) (ci := 11) (k := 14) (T := TX11) (v := .int (S 188 14)) C hM (qmem_11 E ad S A b (show qk 188 = 11 from by decide +kernel)) (by decide) rfl hi11 (by decide) hL1 rfl rfl dX11_feed_16 ?_
      refine lv_as (y := nI n) hln ?_
      refine lv_sipush (v := 240) hx hb dX11_feed_19 (by decide) ?_
      refine lv_icmp_ne (tgt := 28) hx hb dX11_feed_22 (by decide) (fun c_22 => ?_) (fun c_22 => ?_)
      · skip
        have c_22 : ¬ (n = 240) := fun z => c_22 ((nI_eq (a := n) (b := 240) (by omega) (by omega)).mpr z)
        refine lv_aload_n hx hb dX11_feed_28 rfl (lv_at hl 0 rfl) ?_
        refine q_get (o := 188) (ci := 11) (k := 13) (T := TX11) (v := .ref (ad 194)) C hM (qmem_11 E ad S A b (show qk 188 = 11 from by decide +kernel)) (by decide) rfl hi11 (by decide) hL2 rfl rfl dX11_feed_29 ?_
        refine lv_aload_n hx hb dX11_feed_32 rfl (lv_at hl 0 rfl) ?_
        refine q_get (o := 188) (ci := 11) (k := 14) (T := TX11) (v := .int (S 188 14)) C hM (qmem_11 E ad S A b (show qk 188 = 11 from by decide +kernel)) (by decide) rfl hi11 (by decide) hL1 rfl rfl dX11_feed_33 ?_
        refine lv_as (y := nI n) hln ?_
        refine lv_iload_n hx hb dX11_feed_36 rfl (lv_at hl 1 rfl) ?_
        refine q_iast C hM (show qk 194 = 12 from by decide +kernel) (by rw [(show ql 194 = 240 from by decide +kernel)]; exact vp_nI (by omega) (by omega)) dX11_feed_37 (fun H locs hM => ?_)
        rw [nIc (by omega)] at hM
        obtain ⟨A_5, eA_5⟩ : ∃ zz, zz = q2 A 194 n (nI ka1) := ⟨_, rfl⟩
        rw [← eA_5] at hM
        refine lv_aload_n hx hb dX11_feed_38 rfl (lv_at hl 0 rfl) ?_
        refine lv_dup hx hb dX11_feed_39 rfl ?_
        refine q_get (o := 188) (ci := 11) (k := 14) (T := TX11) (v := .int (S 188 14)) C hM (qmem_11 E ad S A_5 b (show qk 188 = 11 from by decide +kernel)) (by decide) rfl hi11 (by decide) hL1 rfl rfl dX11_feed_40 ?_
        refine lv_as (y := nI n) hln ?_
        refine lv_iconst (v := 1) hx hb dX11_feed_43 (by decide) ?_
        refine lv_iadd hx hb dX11_feed_44 ?_
        refine lv_as (y := nI (n + 1)) (nI_add _ _) ?_
        refine q_put (o := 188) (ci := 11) (k := 14) (T := TX11) (ty := .int) (v := nI (n + 1)) C hM (qmem_11 E ad S A_5 b (show qk 188 = 11 from by decide +kernel)) (by decide) rfl hi11 tyX11 tyX11_ok nmX11 (by decide) hL1 rfl rfl (by decide +kernel) rfl rfl (Nat.le_of_ble_eq_true rfl) (qs_11_14 E ad S A_5 b (show qk 188 = 11 from by decide +kernel) (nI (n + 1))) dX11_feed_45 (fun H locs hM => ?_)
        obtain ⟨S_6, eS_6⟩ : ∃ zz, zz = q2 S 188 14 (nI (n + 1)) := ⟨_, rfl⟩
        rw [← eS_6] at hM
        refine lv_aload_n hx hb dX11_feed_48 rfl (lv_at hl 0 rfl) ?_
        refine q_get (o := 188) (ci := 11) (k := 14) (T := TX11) (v := .int (nI (n + 1))) C hM (qmem_11 E ad S_6 A_5 b (show qk 188 = 11 from by decide +kernel)) (by decide) rfl hi11 (by decide) hL1 rfl (congrArg (fun z => some (Value.int z)) (show S_6 188 14 = nI (n + 1) from by rw [eS_6]; exact q2_s _ _ _ _)) dX11_feed_49 ?_
        exact q_iret C hM dX11_feed_52 (by rw [qir_in hloka1 hhika1 (by omega)]; dsimp only [Option.elim]; exact ⟨rfl, Or.inr ⟨by rw [if_pos (by omega)], ka1, hhika1, rfl, rfl, eS_6, eA_5⟩⟩)
      · skip
        have c_22 : n = 240 := (nI_eq (a := n) (b := 240) (by omega) (by omega)).mp c_22
        refine lv_ldc (v := (-1000000004)) hx hb C.2.2.2.1 hL3 dX11_feed_25 ?_
        exact q_iret C hM dX11_feed_27 (by rw [qir_in hloka1 hhika1 (by omega)]; dsimp only [Option.elim]; exact ⟨rfl, Or.inl ⟨by rw [if_neg (by omega)]; decide, by rw [if_neg (by omega)], rfl, rfl⟩⟩)
    · skip
      have c_9 : 1 = 0 := (nI_eq (a := 1) (b := 0) (by omega) (by omega)).mp c_9
      exact absurd c_9 (by decide)
  · skip
    rw [hzr_1] at er_1
    subst er_1
    refine lv_if_ne (tgt := 15) hx hb dX11_feed_9 (by decide) (fun c_9 => ?_) (fun c_9 => ?_)
    · skip
      have c_9 : ¬ (0 = 0) := fun z => c_9 ((nI_eq (a := 0) (b := 0) (by omega) (by omega)).mpr z)
      exact absurd rfl c_9
    · skip
      have c_9 : 0 = 0 := (nI_eq (a := 0) (b := 0) (by omega) (by omega)).mp c_9
      refine lv_ldc (v := (-1000000002)) hx hb C.2.2.2.1 hL4 dX11_feed_12 ?_
      exact q_iret C hM dX11_feed_14 (by rw [qir_out hir_1]; dsimp only [Option.elim]; exact ⟨rfl, Or.inl ⟨by decide, rfl, rfl, rfl⟩⟩)

set_option maxHeartbeats 4000000 in
set_option maxRecDepth 100000 in
theorem c_X11_fault (E : qE) (ad : Nat → Nat) (l : Launch) (S A : qA2) (b : qB) : MI E ad l yX11_fault wsX11_fault { frames := 0, cells := 0, slots := 0, locals := 0 } [.ref (ad 188)] S A b (fun r S' A' b' => (S = S' ∧ A = A' ∧ b = b') ∧ r = S 188 15) := by
  refine MI.of (cc := cX11_fault) (maxL := 1) (ret := some .int) RX11 rfl (by decide) rfl ?_
  intro pg e s m below meth cd C hM
  have hx := C.1
  have hb := C.2.1
  have hts := C.2.2.2.2.1
  have hA : ∀ q, s.heap.size ≤ q → qAr ad s.heap.size q := fun _ h => Or.inr h
  have hi11 : ∀ w ∈ u_ws RX11 TX11 45, w ∈ wsX11_fault := by decide +kernel
  have hL0 := hts (.fieldLink RX11 28 "CrowFencesModel" "faultPlace" "I") (by decide +kernel)
  have hl := lv_entry ([.ref (ad 188)]) (n := 1) (Nat.le_of_ble_eq_true rfl)
  rw [lg_entry_eq]
  generalize (lg_sl ([.ref (ad 188)]) ++ List.replicate (1 - (lg_sl ([.ref (ad 188)])).length) Slot.unset).toArray = ls at hl ⊢
  have hl : lv_has ls 1 [(0, .ref (ad 188))] := hl
  refine lv_aload_n hx hb dX11_fault_0 rfl (lv_at hl 0 rfl) ?_
  refine q_get (o := 188) (ci := 11) (k := 15) (T := TX11) (v := .int (S 188 15)) C hM (qmem_11 E ad S A b (show qk 188 = 11 from by decide +kernel)) (by decide) rfl hi11 (by decide) hL0 rfl rfl dX11_fault_1 ?_
  exact q_iret C hM dX11_fault_4 (by exact ⟨⟨rfl, rfl, rfl⟩, rfl⟩)

set_option maxHeartbeats 4000000 in
set_option maxRecDepth 100000 in
theorem c_X11_told (E : qE) (ad : Nat → Nat) (l : Launch) (S A : qA2) (b : qB) (a1 : Int32) (nC : Nat) (hC : S 188 0 = nI nC) (hCb : nC ≤ 12) (nP : Nat) (hPo : S 188 4 = nI nP) (hPb : nP ≤ 6) : MI E ad l yX11_told wsX11_told { frames := 2, cells := 0, slots := 0, locals := 43 } [.ref (ad 188), .int a1] S A b (fun r S' A' b' => (S = S' ∧ A = A' ∧ b = b') ∧ r = (if a1 = 0 then S 188 0 else if a1 = 1 then S 188 4 else if a1 = 2 then S 188 6 else if a1 = 3 then S 188 8 else if a1 = 4 then S 188 14 else if a1 = 5 then A 193 35 else if a1 = 6 then A 193 36 else if a1 = 7 then S 188 3 else if a1 = 8 then qopen (S 188 3) (S 188 2) (A 193) nC else if a1 = 9 then A 193 24 else if a1 = 10 then mlet (A 193) nP else if a1 = 11 then qsum (A 193) nC else if a1 = 12 then S 188 36 else if a1 = 13 then S 188 40 else if a1 = 14 then S 188 30 else (-1000000002))) := by
  refine MI.of (cc := cX11_told) (maxL := 2) (ret := some .int) RX11 rfl (by decide) rfl ?_
  intro pg e s m below meth cd C hM
  have hx := C.1
  have hb := C.2.1
  have hts := C.2.2.2.2.1
  have hA : ∀ q, s.heap.size ≤ q → qAr ad s.heap.size q := fun _ h => Or.inr h
  have hi11 : ∀ w ∈ u_ws RX11 TX11 45, w ∈ wsX11_told := by decide +kernel
  have hL0 := hts (.fieldLink RX11 90 "CrowFencesModel" "cells" "I") (by decide +kernel)
  have hL1 := hts (.fieldLink RX11 97 "CrowFencesModel" "posts" "I") (by decide +kernel)
  have hL2 := hts (.fieldLink RX11 100 "CrowFencesModel" "crows" "I") (by decide +kernel)
  have hL3 := hts (.fieldLink RX11 189 "CrowFencesModel" "winds" "I") (by decide +kernel)
  have hL4 := hts (.fieldLink RX11 106 "CrowFencesModel" "texted" "I") (by decide +kernel)
  have hL5 := hts (.fieldLink RX11 22 "CrowFencesModel" "now" "[I") (by decide +kernel)
  have hL6 := hts (.fieldLink RX11 186 "CrowFencesModel" "road" "I") (by decide +kernel)
  have hL7 := hts (.fieldLink RX11 198 "CrowFencesModel" "seen" "I") (by decide +kernel)
  have hL8 := hts (.fieldLink RX11 201 "CrowFencesModel" "booked" "I") (by decide +kernel)
  have hL9 := hts (.fieldLink RX11 204 "CrowFencesModel" "undos" "I") (by decide +kernel)
  have hL10 := hts (.constant RX11 105 (-1000000002)) (by decide +kernel)
  have hl := lv_entry ([.ref (ad 188), .int a1]) (n := 2) (Nat.le_of_ble_eq_true rfl)
  rw [lg_entry_eq]
  generalize (lg_sl ([.ref (ad 188), .int a1]) ++ List.replicate (2 - (lg_sl ([.ref (ad 188), .int a1])).length) Slot.unset).toArray = ls at hl ⊢
  have hl : lv_has ls 2 [(0, .ref (ad 188)), (1, .int a1)] := hl
  refine lv_iload_n hx hb dX11_told_0 rfl (lv_at hl 1 rfl) ?_
  by_cases c_1 : a1 = 0
  · have hz : (a1 : Int32).toInt = 0 := by rw [c_1]; rfl
    refine lv_tableIn (off := 75) (tgt := 76) hx hb dX11_told_1 (by rw [hz]; decide) (by rw [hz]; decide) (by rw [hz]; rfl) (by decide) ?_
    refine lv_aload_n hx hb dX11_told_76 rfl (lv_at hl 0 rfl) ?_
    refine q_get (o := 188) (ci := 11) (k := 0) (T := TX11) (v := .int (S 188 0)) C hM (qmem_11 E ad S A b (show qk 188 = 11 from by decide +kernel)) (by decide) rfl hi11 (by decide) hL0 rfl rfl dX11_told_77 ?_
    exact q_iret C hM dX11_told_80 (by exact ⟨⟨rfl, rfl, rfl⟩, by rw [if_pos c_1]⟩)
  have n_1_0 := c_1
  by_cases c_1 : a1 = 1
  · have hz : (a1 : Int32).toInt = 1 := by rw [c_1]; rfl
    refine lv_tableIn (off := 80) (tgt := 81) hx hb dX11_told_1 (by rw [hz]; decide) (by rw [hz]; decide) (by rw [hz]; rfl) (by decide) ?_
    refine lv_aload_n hx hb dX11_told_81 rfl (lv_at hl 0 rfl) ?_
    refine q_get (o := 188) (ci := 11) (k := 4) (T := TX11) (v := .int (S 188 4)) C hM (qmem_11 E ad S A b (show qk 188 = 11 from by decide +kernel)) (by decide) rfl hi11 (by decide) hL1 rfl rfl dX11_told_82 ?_
    exact q_iret C hM dX11_told_85 (by exact ⟨⟨rfl, rfl, rfl⟩, by rw [if_neg (by rw [c_1]; decide), if_pos c_1]⟩)
  have n_1_1 := c_1
  by_cases c_1 : a1 = 2
  · have hz : (a1 : Int32).toInt = 2 := by rw [c_1]; rfl
    refine lv_tableIn (off := 85) (tgt := 86) hx hb dX11_told_1 (by rw [hz]; decide) (by rw [hz]; decide) (by rw [hz]; rfl) (by decide) ?_
    refine lv_aload_n hx hb dX11_told_86 rfl (lv_at hl 0 rfl) ?_
    refine q_get (o := 188) (ci := 11) (k := 6) (T := TX11) (v := .int (S 188 6)) C hM (qmem_11 E ad S A b (show qk 188 = 11 from by decide +kernel)) (by decide) rfl hi11 (by decide) hL2 rfl rfl dX11_told_87 ?_
    exact q_iret C hM dX11_told_90 (by exact ⟨⟨rfl, rfl, rfl⟩, by rw [if_neg (by rw [c_1]; decide), if_neg (by rw [c_1]; decide), if_pos c_1]⟩)
  have n_1_2 := c_1
  by_cases c_1 : a1 = 3
  · have hz : (a1 : Int32).toInt = 3 := by rw [c_1]; rfl
    refine lv_tableIn (off := 90) (tgt := 91) hx hb dX11_told_1 (by rw [hz]; decide) (by rw [hz]; decide) (by rw [hz]; rfl) (by decide) ?_
    refine lv_aload_n hx hb dX11_told_91 rfl (lv_at hl 0 rfl) ?_
    refine q_get (o := 188) (ci := 11) (k := 8) (T := TX11) (v := .int (S 188 8)) C hM (qmem_11 E ad S A b (show qk 188 = 11 from by decide +kernel)) (by decide) rfl hi11 (by decide) hL3 rfl rfl dX11_told_92 ?_
    exact q_iret C hM dX11_told_95 (by exact ⟨⟨rfl, rfl, rfl⟩, by rw [if_neg (by rw [c_1]; decide), if_neg (by rw [c_1]; decide), if_neg (by rw [c_1]; decide), if_pos c_1]⟩)
  have n_1_3 := c_1
  by_cases c_1 : a1 = 4
  · have hz : (a1 : Int32).toInt = 4 := by rw [c_1]; rfl
    refine lv_tableIn (off := 95) (tgt := 96) hx hb dX11_told_1 (by rw [hz]; decide) (by rw [hz]; decide) (by rw [hz]; rfl) (by decide) ?_
    refine lv_aload_n hx hb dX11_told_96 rfl (lv_at hl 0 rfl) ?_
    refine q_get (o := 188) (ci := 11) (k := 14) (T := TX11) (v := .int (S 188 14)) C hM (qmem_11 E ad S A b (show qk 188 = 11 from by decide +kernel)) (by decide) rfl hi11 (by decide) hL4 rfl rfl dX11_told_97 ?_
    exact q_iret C hM dX11_told_100 (by exact ⟨⟨rfl, rfl, rfl⟩, by rw [if_neg (by rw [c_1]; decide), if_neg (by rw [c_1]; decide), if_neg (by rw [c_1]; decide), if_neg (by rw [c_1]; decide), if_pos c_1]⟩)
  have n_1_4 := c_1
  by_cases c_1 : a1 = 5
  · have hz : (a1 : Int32).toInt = 5 := by rw [c_1]; rfl
    refine lv_tableIn (off := 100) (tgt := 101) hx hb dX11_told_1 (by rw [hz]; decide) (by rw [hz]; decide) (by rw [hz]; rfl) (by decide) ?_
    refine lv_aload_n hx hb dX11_told_101 rfl (lv_at hl 0 rfl) ?_
    refine q_get (o := 188) (ci := 11) (k := 11) (T := TX11) (v := .ref (ad 193)) C hM (qmem_11 E ad S A b (show qk 188 = 11 from by decide +kernel)) (by decide) rfl hi11 (by decide) hL5 rfl rfl dX11_told_102 ?_
    refine lv_bipush (v := 35) hx hb dX11_told_105 (by decide) ?_
    refine q_iald (v := A 193 35) C hM (show qk 193 = 12 from by decide +kernel) (by rw [(show ql 193 = 37 from by decide +kernel)]; exact (vp_nI (by decide) (by decide) : vp_in (nI 35) 37)) (by rw [show Int32.toNatClampNeg 35 = 35 from by decide]) dX11_told_107 ?_
    exact q_iret C hM dX11_told_108 (by exact ⟨⟨rfl, rfl, rfl⟩, by rw [if_neg (by rw [c_1]; decide), if_neg (by rw [c_1]; decide), if_neg (by rw [c_1]; decide), if_neg (by rw [c_1]; decide), if_neg (by rw [c_1]; decide), if_pos c_1]⟩)
  have n_1_5 := c_1
  by_cases c_1 : a1 = 6
  · have hz : (a1 : Int32).toInt = 6 := by rw [c_1]; rfl
    refine lv_tableIn (off := 108) (tgt := 109) hx hb dX11_told_1 (by rw [hz]; decide) (by rw [hz]; decide) (by rw [hz]; rfl) (by decide) ?_
    refine lv_aload_n hx hb dX11_told_109 rfl (lv_at hl 0 rfl) ?_
    refine q_get (o := 188) (ci := 11) (k := 11) (T := TX11) (v := .ref (ad 193)) C hM (qmem_11 E ad S A b (show qk 188 = 11 from by decide +kernel)) (by decide) rfl hi11 (by decide) hL5 rfl rfl dX11_told_110 ?_
    refine lv_bipush (v := 36) hx hb dX11_told_113 (by decide) ?_
    refine q_iald (v := A 193 36) C hM (show qk 193 = 12 from by decide +kernel) (by rw [(show ql 193 = 37 from by decide +kernel)]; exact (vp_nI (by decide) (by decide) : vp_in (nI 36) 37)) (by rw [show Int32.toNatClampNeg 36 = 36 from by decide]) dX11_told_115 ?_
    exact q_iret C hM dX11_told_116 (by exact ⟨⟨rfl, rfl, rfl⟩, by rw [if_neg (by rw [c_1]; decide), if_neg (by rw [c_1]; decide), if_neg (by rw [c_1]; decide), if_neg (by rw [c_1]; decide), if_neg (by rw [c_1]; decide), if_neg (by rw [c_1]; decide), if_pos c_1]⟩)
  have n_1_6 := c_1
  by_cases c_1 : a1 = 7
  · have hz : (a1 : Int32).toInt = 7 := by rw [c_1]; rfl
    refine lv_tableIn (off := 116) (tgt := 117) hx hb dX11_told_1 (by rw [hz]; decide) (by rw [hz]; decide) (by rw [hz]; rfl) (by decide) ?_
    refine lv_aload_n hx hb dX11_told_117 rfl (lv_at hl 0 rfl) ?_
    refine q_get (o := 188) (ci := 11) (k := 3) (T := TX11) (v := .int (S 188 3)) C hM (qmem_11 E ad S A b (show qk 188 = 11 from by decide +kernel)) (by decide) rfl hi11 (by decide) hL6 rfl rfl dX11_told_118 ?_
    exact q_iret C hM dX11_told_121 (by exact ⟨⟨rfl, rfl, rfl⟩, by rw [if_neg (by rw [c_1]; decide), if_neg (by rw [c_1]; decide), if_neg (by rw [c_1]; decide), if_neg (by rw [c_1]; decide), if_neg (by rw [c_1]; decide), if_neg (by rw [c_1]; decide), if_neg (by rw [c_1]; decide), if_pos c_1]⟩)
  have n_1_7 := c_1
  by_cases c_1 : a1 = 8
  · have hz : (a1 : Int32).toInt = 8 := by rw [c_1]; rfl
    refine lv_tableIn (off := 121) (tgt := 122) hx hb dX11_told_1 (by rw [hz]; decide) (by rw [hz]; decide) (by rw [hz]; rfl) (by decide) ?_
    refine lv_aload_n hx hb dX11_told_122 rfl (lv_at hl 0 rfl) ?_
    refine q_callVI (n := 0) (o := 188) (As := []) (rest := []) C hM hA (c_X11_openCells E ad l S A b nC hC (by omega)) (qmem_11 E ad S A b (show qk 188 = 11 from by decide +kernel)) (by decide) rfl gX11_told_X11_openCells rfl rfl rfl (by decide +kernel) ⟨Nat.le_of_ble_eq_true rfl, Nat.le_of_ble_eq_true rfl⟩ rfl hl.1 rfl (Nat.le_of_ble_eq_true rfl) ⟨Nat.zero_le _, Nat.zero_le _⟩ dX11_told_123 (fun r_1 S_2 A_3 b_4 H locs qr_1 hM => ?_)
    obtain ⟨⟨e1, e2, e3⟩, er_1⟩ := qr_1
    subst e1; subst e2; subst e3
    exact q_iret C hM dX11_told_126 (by exact ⟨⟨rfl, rfl, rfl⟩, by rw [if_neg (by rw [c_1]; decide), if_neg (by rw [c_1]; decide), if_neg (by rw [c_1]; decide), if_neg (by rw [c_1]; decide), if_neg (by rw [c_1]; decide), if_neg (by rw [c_1]; decide), if_neg (by rw [c_1]; decide), if_neg (by rw [c_1]; decide), if_pos c_1, er_1]⟩)
  have n_1_8 := c_1
  by_cases c_1 : a1 = 9
  · have hz : (a1 : Int32).toInt = 9 := by rw [c_1]; rfl
    refine lv_tableIn (off := 126) (tgt := 127) hx hb dX11_told_1 (by rw [hz]; decide) (by rw [hz]; decide) (by rw [hz]; rfl) (by decide) ?_
    refine lv_aload_n hx hb dX11_told_127 rfl (lv_at hl 0 rfl) ?_
    refine q_get (o := 188) (ci := 11) (k := 11) (T := TX11) (v := .ref (ad 193)) C hM (qmem_11 E ad S A b (show qk 188 = 11 from by decide +kernel)) (by decide) rfl hi11 (by decide) hL5 rfl rfl dX11_told_128 ?_
    refine lv_bipush (v := 24) hx hb dX11_told_131 (by decide) ?_
    refine q_iald (v := A 193 24) C hM (show qk 193 = 12 from by decide +kernel) (by rw [(show ql 193 = 37 from by decide +kernel)]; exact (vp_nI (by decide) (by decide) : vp_in (nI 24) 37)) (by rw [show Int32.toNatClampNeg 24 = 24 from by decide]) dX11_told_133 ?_
    exact q_iret C hM dX11_told_134 (by exact ⟨⟨rfl, rfl, rfl⟩, by rw [if_neg (by rw [c_1]; decide), if_neg (by rw [c_1]; decide), if_neg (by rw [c_1]; decide), if_neg (by rw [c_1]; decide), if_neg (by rw [c_1]; decide), if_neg (by rw [c_1]; decide), if_neg (by rw [c_1]; decide), if_neg (by rw [c_1]; decide), if_neg (by rw [c_1]; decide), if_pos c_1]⟩)
  have n_1_9 := c_1
  by_cases c_1 : a1 = 10
  · have hz : (a1 : Int32).toInt = 10 := by rw [c_1]; rfl
    refine lv_tableIn (off := 134) (tgt := 135) hx hb dX11_told_1 (by rw [hz]; decide) (by rw [hz]; decide) (by rw [hz]; rfl) (by decide) ?_
    refine lv_aload_n hx hb dX11_told_135 rfl (lv_at hl 0 rfl) ?_
    refine q_callVI (n := 0) (o := 188) (As := []) (rest := []) C hM hA (c_X11_letPosts E ad l S A b nP hPo (by omega)) (qmem_11 E ad S A b (show qk 188 = 11 from by decide +kernel)) (by decide) rfl gX11_told_X11_letPosts rfl rfl rfl (by decide +kernel) ⟨Nat.le_of_ble_eq_true rfl, Nat.le_of_ble_eq_true rfl⟩ rfl hl.1 rfl (Nat.le_of_ble_eq_true rfl) ⟨Nat.zero_le _, Nat.zero_le _⟩ dX11_told_136 (fun r_5 S_6 A_7 b_8 H locs qr_5 hM => ?_)
    obtain ⟨⟨e1, e2, e3⟩, er_5⟩ := qr_5
    subst e1; subst e2; subst e3
    exact q_iret C hM dX11_told_139 (by exact ⟨⟨rfl, rfl, rfl⟩, by rw [if_neg (by rw [c_1]; decide), if_neg (by rw [c_1]; decide), if_neg (by rw [c_1]; decide), if_neg (by rw [c_1]; decide), if_neg (by rw [c_1]; decide), if_neg (by rw [c_1]; decide), if_neg (by rw [c_1]; decide), if_neg (by rw [c_1]; decide), if_neg (by rw [c_1]; decide), if_neg (by rw [c_1]; decide), if_pos c_1, er_5]⟩)
  have n_1_10 := c_1
  by_cases c_1 : a1 = 11
  · have hz : (a1 : Int32).toInt = 11 := by rw [c_1]; rfl
    refine lv_tableIn (off := 139) (tgt := 140) hx hb dX11_told_1 (by rw [hz]; decide) (by rw [hz]; decide) (by rw [hz]; rfl) (by decide) ?_
    refine lv_aload_n hx hb dX11_told_140 rfl (lv_at hl 0 rfl) ?_
    refine q_callVI (n := 0) (o := 188) (As := []) (rest := []) C hM hA (c_X11_allSnow E ad l S A b nC hC (by omega)) (qmem_11 E ad S A b (show qk 188 = 11 from by decide +kernel)) (by decide) rfl gX11_told_X11_allSnow rfl rfl rfl (by decide +kernel) ⟨Nat.le_of_ble_eq_true rfl, Nat.le_of_ble_eq_true rfl⟩ rfl hl.1 rfl (Nat.le_of_ble_eq_true rfl) ⟨Nat.zero_le _, Nat.zero_le _⟩ dX11_told_141 (fun r_9 S_10 A_11 b_12 H locs qr_9 hM => ?_)
    obtain ⟨⟨e1, e2, e3⟩, er_9⟩ := qr_9
    subst e1; subst e2; subst e3
    exact q_iret C hM dX11_told_144 (by exact ⟨⟨rfl, rfl, rfl⟩, by rw [if_neg (by rw [c_1]; decide), if_neg (by rw [c_1]; decide), if_neg (by rw [c_1]; decide), if_neg (by rw [c_1]; decide), if_neg (by rw [c_1]; decide), if_neg (by rw [c_1]; decide), if_neg (by rw [c_1]; decide), if_neg (by rw [c_1]; decide), if_neg (by rw [c_1]; decide), if_neg (by rw [c_1]; decide), if_neg (by rw [c_1]; decide), if_pos c_1, er_9]⟩)
  have n_1_11 := c_1
  by_cases c_1 : a1 = 12
  · have hz : (a1 : Int32).toInt = 12 := by rw [c_1]; rfl
    refine lv_tableIn (off := 144) (tgt := 145) hx hb dX11_told_1 (by rw [hz]; decide) (by rw [hz]; decide) (by rw [hz]; rfl) (by decide) ?_
    refine lv_aload_n hx hb dX11_told_145 rfl (lv_at hl 0 rfl) ?_
    refine q_get (o := 188) (ci := 11) (k := 36) (T := TX11) (v := .int (S 188 36)) C hM (qmem_11 E ad S A b (show qk 188 = 11 from by decide +kernel)) (by decide) rfl hi11 (by decide) hL7 rfl rfl dX11_told_146 ?_
    exact q_iret C hM dX11_told_149 (by exact ⟨⟨rfl, rfl, rfl⟩, by rw [if_neg (by rw [c_1]; decide), if_neg (by rw [c_1]; decide), if_neg (by rw [c_1]; decide), if_neg (by rw [c_1]; decide), if_neg (by rw [c_1]; decide), if_neg (by rw [c_1]; decide), if_neg (by rw [c_1]; decide), if_neg (by rw [c_1]; decide), if_neg (by rw [c_1]; decide), if_neg (by rw [c_1]; decide), if_neg (by rw [c_1]; decide), if_neg (by rw [c_1]; decide), if_pos c_1]⟩)
  have n_1_12 := c_1
  by_cases c_1 : a1 = 13
  · have hz : (a1 : Int32).toInt = 13 := by rw [c_1]; rfl
    refine lv_tableIn (off := 149) (tgt := 150) hx hb dX11_told_1 (by rw [hz]; decide) (by rw [hz]; decide) (by rw [hz]; rfl) (by decide) ?_
    refine lv_aload_n hx hb dX11_told_150 rfl (lv_at hl 0 rfl) ?_
    refine q_get (o := 188) (ci := 11) (k := 40) (T := TX11) (v := .int (S 188 40)) C hM (qmem_11 E ad S A b (show qk 188 = 11 from by decide +kernel)) (by decide) rfl hi11 (by decide) hL8 rfl rfl dX11_told_151 ?_
    exact q_iret C hM dX11_told_154 (by exact ⟨⟨rfl, rfl, rfl⟩, by rw [if_neg (by rw [c_1]; decide), if_neg (by rw [c_1]; decide), if_neg (by rw [c_1]; decide), if_neg (by rw [c_1]; decide), if_neg (by rw [c_1]; decide), if_neg (by rw [c_1]; decide), if_neg (by rw [c_1]; decide), if_neg (by rw [c_1]; decide), if_neg (by rw [c_1]; decide), if_neg (by rw [c_1]; decide), if_neg (by rw [c_1]; decide), if_neg (by rw [c_1]; decide), if_neg (by rw [c_1]; decide), if_pos c_1]⟩)
  have n_1_13 := c_1
  by_cases c_1 : a1 = 14
  · have hz : (a1 : Int32).toInt = 14 := by rw [c_1]; rfl
    refine lv_tableIn (off := 154) (tgt := 155) hx hb dX11_told_1 (by rw [hz]; decide) (by rw [hz]; decide) (by rw [hz]; rfl) (by decide) ?_
    refine lv_aload_n hx hb dX11_told_155 rfl (lv_at hl 0 rfl) ?_
    refine q_get (o := 188) (ci := 11) (k := 30) (T := TX11) (v := .int (S 188 30)) C hM (qmem_11 E ad S A b (show qk 188 = 11 from by decide +kernel)) (by decide) rfl hi11 (by decide) hL9 rfl rfl dX11_told_156 ?_
    exact q_iret C hM dX11_told_159 (by exact ⟨⟨rfl, rfl, rfl⟩, by rw [if_neg (by rw [c_1]; decide), if_neg (by rw [c_1]; decide), if_neg (by rw [c_1]; decide), if_neg (by rw [c_1]; decide), if_neg (by rw [c_1]; decide), if_neg (by rw [c_1]; decide), if_neg (by rw [c_1]; decide), if_neg (by rw [c_1]; decide), if_neg (by rw [c_1]; decide), if_neg (by rw [c_1]; decide), if_neg (by rw [c_1]; decide), if_neg (by rw [c_1]; decide), if_neg (by rw [c_1]; decide), if_neg (by rw [c_1]; decide), if_pos c_1]⟩)
  have n_1_14 := c_1
  have m_1_0 := q_neI (i := 0) (by decide) n_1_0
  have m_1_1 := q_neI (i := 1) (by decide) n_1_1
  have m_1_2 := q_neI (i := 2) (by decide) n_1_2
  have m_1_3 := q_neI (i := 3) (by decide) n_1_3
  have m_1_4 := q_neI (i := 4) (by decide) n_1_4
  have m_1_5 := q_neI (i := 5) (by decide) n_1_5
  have m_1_6 := q_neI (i := 6) (by decide) n_1_6
  have m_1_7 := q_neI (i := 7) (by decide) n_1_7
  have m_1_8 := q_neI (i := 8) (by decide) n_1_8
  have m_1_9 := q_neI (i := 9) (by decide) n_1_9
  have m_1_10 := q_neI (i := 10) (by decide) n_1_10
  have m_1_11 := q_neI (i := 11) (by decide) n_1_11
  have m_1_12 := q_neI (i := 12) (by decide) n_1_12
  have m_1_13 := q_neI (i := 13) (by decide) n_1_13
  have m_1_14 := q_neI (i := 14) (by decide) n_1_14
  refine lv_tableOut (tgt := 160) hx hb dX11_told_1 (by omega) (by decide) ?_
  refine lv_ldc (v := (-1000000002)) hx hb C.2.2.2.1 hL10 dX11_told_160 ?_
  exact q_iret C hM dX11_told_162 (by exact ⟨⟨rfl, rfl, rfl⟩, by rw [if_neg n_1_0, if_neg n_1_1, if_neg n_1_2, if_neg n_1_3, if_neg n_1_4, if_neg n_1_5, if_neg n_1_6, if_neg n_1_7, if_neg n_1_8, if_neg n_1_9, if_neg n_1_10, if_neg n_1_11, if_neg n_1_12, if_neg n_1_13, if_neg n_1_14]⟩)

set_option maxHeartbeats 4000000 in
set_option maxRecDepth 100000 in
theorem c_X11_snow (E : qE) (ad : Nat → Nat) (l : Launch) (S A : qA2) (b : qB) (a1 : Int32) (nC : Nat) (hC : S 188 0 = nI nC) (hCb : nC ≤ 12) : MI E ad l yX11_snow wsX11_snow { frames := 2, cells := 0, slots := 0, locals := 46 } [.ref (ad 188), .int a1] S A b (fun r S' A' b' => (S = S' ∧ A = A' ∧ b = b') ∧ r = (qix a1 nC).elim (-1000000001) (fun k => A 193 k)) := by
  refine MI.of (cc := cX11_snow) (maxL := 2) (ret := some .int) RX11 rfl (by decide) rfl ?_
  intro pg e s m below meth cd C hM
  have hx := C.1
  have hb := C.2.1
  have hts := C.2.2.2.2.1
  have hA : ∀ q, s.heap.size ≤ q → qAr ad s.heap.size q := fun _ h => Or.inr h
  have hi11 : ∀ w ∈ u_ws RX11 TX11 45, w ∈ wsX11_snow := by decide +kernel
  have hL0 := hts (.fieldLink RX11 22 "CrowFencesModel" "now" "[I") (by decide +kernel)
  have hL1 := hts (.constant RX11 219 (-1000000001)) (by decide +kernel)
  have hl := lv_entry ([.ref (ad 188), .int a1]) (n := 2) (Nat.le_of_ble_eq_true rfl)
  rw [lg_entry_eq]
  generalize (lg_sl ([.ref (ad 188), .int a1]) ++ List.replicate (2 - (lg_sl ([.ref (ad 188), .int a1])).length) Slot.unset).toArray = ls at hl ⊢
  have hl : lv_has ls 2 [(0, .ref (ad 188)), (1, .int a1)] := hl
  refine lv_aload_n hx hb dX11_snow_0 rfl (lv_at hl 0 rfl) ?_
  refine lv_iload_n hx hb dX11_snow_1 rfl (lv_at hl 1 rfl) ?_
  refine q_callVI (n := 1) (o := 188) (As := [.int a1]) (rest := []) C hM hA (c_X11_isCell E ad l S A b a1 nC hC (by omega)) (qmem_11 E ad S A b (show qk 188 = 11 from by decide +kernel)) (by decide) rfl gX11_snow_X11_isCell rfl rfl rfl (by decide +kernel) ⟨Nat.le_of_ble_eq_true rfl, Nat.le_of_ble_eq_true rfl⟩ rfl hl.1 rfl (Nat.le_of_ble_eq_true rfl) ⟨Nat.zero_le _, Nat.zero_le _⟩ dX11_snow_2 (fun r_1 S_2 A_3 b_4 H locs qr_1 hM => ?_)
  obtain ⟨⟨e1, e2, e3⟩, hDr_1⟩ := qr_1
  subst e1; subst e2; subst e3
  rcases hDr_1 with ⟨er_1, ka1, hka1, eka1⟩ | ⟨er_1, hnoa1⟩
  · skip
    subst er_1
    subst eka1
    refine lv_if_eq (tgt := 17) hx hb dX11_snow_5 (by decide) (fun c_5 => ?_) (fun c_5 => ?_)
    · skip
      have c_5 : 1 = 0 := (nI_eq (a := 1) (b := 0) (by omega) (by omega)).mp c_5
      exact absurd c_5 (by decide)
    · skip
      have c_5 : ¬ (1 = 0) := fun z => c_5 ((nI_eq (a := 1) (b := 0) (by omega) (by omega)).mpr z)
      refine lv_aload_n hx hb dX11_snow_8 rfl (lv_at hl 0 rfl) ?_
      refine q_get (o := 188) (ci := 11) (k := 11) (T := TX11) (v := .ref (ad 193)) C hM (qmem_11 E ad S A b (show qk 188 = 11 from by decide +kernel)) (by decide) rfl hi11 (by decide) hL0 rfl rfl dX11_snow_9 ?_
      refine lv_iload_n hx hb dX11_snow_12 rfl (lv_at hl 1 rfl) ?_
      refine q_iald (v := A 193 ka1) C hM (show qk 193 = 12 from by decide +kernel) (by rw [(show ql 193 = 37 from by decide +kernel)]; exact vp_nI (by omega) (by omega)) (by rw [nIc (by omega)]) dX11_snow_13 ?_
      refine lv_goto (tgt := 19) hx hb dX11_snow_14 (by decide) ?_
      exact q_iret C hM dX11_snow_19 (by exact ⟨⟨rfl, rfl, rfl⟩, by rw [qix_in hka1 (by omega)] <;> rfl⟩)
  · skip
    subst er_1
    refine lv_if_eq (tgt := 17) hx hb dX11_snow_5 (by decide) (fun c_5 => ?_) (fun c_5 => ?_)
    · skip
      have c_5 : 0 = 0 := (nI_eq (a := 0) (b := 0) (by omega) (by omega)).mp c_5
      refine lv_ldc (v := (-1000000001)) hx hb C.2.2.2.1 hL1 dX11_snow_17 ?_
      exact q_iret C hM dX11_snow_19 (by exact ⟨⟨rfl, rfl, rfl⟩, by rw [qix_out (by omega) hnoa1] <;> rfl⟩)
    · skip
      have c_5 : ¬ (0 = 0) := fun z => c_5 ((nI_eq (a := 0) (b := 0) (by omega) (by omega)).mpr z)
      exact absurd rfl c_5

set_option maxHeartbeats 4000000 in
set_option maxRecDepth 100000 in
theorem c_X11_post (E : qE) (ad : Nat → Nat) (l : Launch) (S A : qA2) (b : qB) (a1 a2 : Int32) (nP : Nat) (hPo : S 188 4 = nI nP) (hPb : nP ≤ 6) : MI E ad l yX11_post wsX11_post { frames := 2, cells := 0, slots := 0, locals := 46 } [.ref (ad 188), .int a1, .int a2] S A b (fun r S' A' b' => (S = S' ∧ A = A' ∧ b = b') ∧ r = (qix a1 nP).elim (-1000000001) (fun k => if a2 = 0 then A 193 (12 + k) else if a2 = 1 then A 189 k else if a2 = 2 then A 193 (18 + k) else if a2 = 3 then qtb (A 193 24) (nI k) else (-1000000002))) := by
  refine MI.of (cc := cX11_post) (maxL := 3) (ret := some .int) RX11 rfl (by decide) rfl ?_
  intro pg e s m below meth cd C hM
  have hx := C.1
  have hb := C.2.1
  have hts := C.2.2.2.2.1
  have hA : ∀ q, s.heap.size ≤ q → qAr ad s.heap.size q := fun _ h => Or.inr h
  have hi11 : ∀ w ∈ u_ws RX11 TX11 45, w ∈ wsX11_post := by decide +kernel
  have hL0 := hts (.fieldLink RX11 22 "CrowFencesModel" "now" "[I") (by decide +kernel)
  have hL1 := hts (.fieldLink RX11 7 "CrowFencesModel" "view" "[I") (by decide +kernel)
  have hL2 := hts (.constant RX11 105 (-1000000002)) (by decide +kernel)
  have hL3 := hts (.constant RX11 219 (-1000000001)) (by decide +kernel)
  have hl := lv_entry ([.ref (ad 188), .int a1, .int a2]) (n := 3) (Nat.le_of_ble_eq_true rfl)
  rw [lg_entry_eq]
  generalize (lg_sl ([.ref (ad 188), .int a1, .int a2]) ++ List.replicate (3 - (lg_sl ([.ref (ad 188), .int a1, .int a2])).length) Slot.unset).toArray = ls at hl ⊢
  have hl : lv_has ls 3 [(0, .ref (ad 188)), (1, .int a1), (2, .int a2)] := hl
  refine lv_aload_n hx hb dX11_post_0 rfl (lv_at hl 0 rfl) ?_
  refine lv_iload_n hx hb dX11_post_1 rfl (lv_at hl 1 rfl) ?_
  refine q_callVI (n := 1) (o := 188) (As := [.int a1]) (rest := []) C hM hA (c_X11_isPost E ad l S A b a1 nP hPo (by omega)) (qmem_11 E ad S A b (show qk 188 = 11 from by decide +kernel)) (by decide) rfl gX11_post_X11_isPost rfl rfl rfl (by decide +kernel) ⟨Nat.le_of_ble_eq_true rfl, Nat.le_of_ble_eq_true rfl⟩ rfl hl.1 rfl (Nat.le_of_ble_eq_true rfl) ⟨Nat.zero_le _, Nat.zero_le _⟩ dX11_post_2 (fun r_1 S_2 A_3 b_4 H locs qr_1 hM => ?_)
  obtain ⟨⟨e1, e2, e3⟩, hDr_1⟩ := qr_1
  subst e1; subst e2; subst e3
  rcases hDr_1 with ⟨er_1, ka1, hka1, eka1⟩ | ⟨er_1, hnoa1⟩
  · skip
    subst er_1
    subst eka1
    refine lv_if_ne (tgt := 11) hx hb dX11_post_5 (by decide) (fun c_5 => ?_) (fun c_5 => ?_)
    · skip
      have c_5 : ¬ (1 = 0) := fun z => c_5 ((nI_eq (a := 1) (b := 0) (by omega) (by omega)).mpr z)
      refine lv_iload_n hx hb dX11_post_11 rfl (lv_at hl 2 rfl) ?_
      by_cases c_12 : a2 = 0
      · have hz : (a2 : Int32).toInt = 0 := by rw [c_12]; rfl
        refine lv_tableIn (off := 32) (tgt := 44) hx hb dX11_post_12 (by rw [hz]; decide) (by rw [hz]; decide) (by rw [hz]; rfl) (by decide) ?_
        refine lv_aload_n hx hb dX11_post_44 rfl (lv_at hl 0 rfl) ?_
        refine q_get (o := 188) (ci := 11) (k := 11) (T := TX11) (v := .ref (ad 193)) C hM (qmem_11 E ad S A b (show qk 188 = 11 from by decide +kernel)) (by decide) rfl hi11 (by decide) hL0 rfl rfl dX11_post_45 ?_
        refine lv_bipush (v := 12) hx hb dX11_post_48 (by decide) ?_
        refine lv_iload_n hx hb dX11_post_50 rfl (lv_at hl 1 rfl) ?_
        refine lv_iadd hx hb dX11_post_51 ?_
        refine lv_as (y := nI (12 + ka1)) (nI_add _ _) ?_
        refine q_iald (v := A 193 (12 + ka1)) C hM (show qk 193 = 12 from by decide +kernel) (by rw [(show ql 193 = 37 from by decide +kernel)]; exact vp_nI (by omega) (by omega)) (by rw [nIc (by omega)]) dX11_post_52 ?_
        exact q_iret C hM dX11_post_53 (by exact ⟨⟨rfl, rfl, rfl⟩, by rw [qix_in hka1 (by omega)]; dsimp only [Option.elim]; rw [if_pos c_12]⟩)
      have n_12_0 := c_12
      by_cases c_12 : a2 = 1
      · have hz : (a2 : Int32).toInt = 1 := by rw [c_12]; rfl
        refine lv_tableIn (off := 42) (tgt := 54) hx hb dX11_post_12 (by rw [hz]; decide) (by rw [hz]; decide) (by rw [hz]; rfl) (by decide) ?_
        refine lv_aload_n hx hb dX11_post_54 rfl (lv_at hl 0 rfl) ?_
        refine q_get (o := 188) (ci := 11) (k := 5) (T := TX11) (v := .ref (ad 189)) C hM (qmem_11 E ad S A b (show qk 188 = 11 from by decide +kernel)) (by decide) rfl hi11 (by decide) hL1 rfl rfl dX11_post_55 ?_
        refine lv_iload_n hx hb dX11_post_58 rfl (lv_at hl 1 rfl) ?_
        refine q_iald (v := A 189 ka1) C hM (show qk 189 = 12 from by decide +kernel) (by rw [(show ql 189 = 6 from by decide +kernel)]; exact vp_nI (by omega) (by omega)) (by rw [nIc (by omega)]) dX11_post_59 ?_
        exact q_iret C hM dX11_post_60 (by exact ⟨⟨rfl, rfl, rfl⟩, by rw [qix_in hka1 (by omega)]; dsimp only [Option.elim]; rw [if_neg (by rw [c_12]; decide), if_pos c_12]⟩)
      have n_12_1 := c_12
      by_cases c_12 : a2 = 2
      · have hz : (a2 : Int32).toInt = 2 := by rw [c_12]; rfl
        refine lv_tableIn (off := 49) (tgt := 61) hx hb dX11_post_12 (by rw [hz]; decide) (by rw [hz]; decide) (by rw [hz]; rfl) (by decide) ?_
        refine lv_aload_n hx hb dX11_post_61 rfl (lv_at hl 0 rfl) ?_
        refine q_get (o := 188) (ci := 11) (k := 11) (T := TX11) (v := .ref (ad 193)) C hM (qmem_11 E ad S A b (show qk 188 = 11 from by decide +kernel)) (by decide) rfl hi11 (by decide) hL0 rfl rfl dX11_post_62 ?_
        refine lv_bipush (v := 18) hx hb dX11_post_65 (by decide) ?_
        refine lv_iload_n hx hb dX11_post_67 rfl (lv_at hl 1 rfl) ?_
        refine lv_iadd hx hb dX11_post_68 ?_
        refine lv_as (y := nI (18 + ka1)) (nI_add _ _) ?_
        refine q_iald (v := A 193 (18 + ka1)) C hM (show qk 193 = 12 from by decide +kernel) (by rw [(show ql 193 = 37 from by decide +kernel)]; exact vp_nI (by omega) (by omega)) (by rw [nIc (by omega)]) dX11_post_69 ?_
        exact q_iret C hM dX11_post_70 (by exact ⟨⟨rfl, rfl, rfl⟩, by rw [qix_in hka1 (by omega)]; dsimp only [Option.elim]; rw [if_neg (by rw [c_12]; decide), if_neg (by rw [c_12]; decide), if_pos c_12]⟩)
      have n_12_2 := c_12
      by_cases c_12 : a2 = 3
      · have hz : (a2 : Int32).toInt = 3 := by rw [c_12]; rfl
        refine lv_tableIn (off := 59) (tgt := 71) hx hb dX11_post_12 (by rw [hz]; decide) (by rw [hz]; decide) (by rw [hz]; rfl) (by decide) ?_
        refine lv_aload_n hx hb dX11_post_71 rfl (lv_at hl 0 rfl) ?_
        refine q_get (o := 188) (ci := 11) (k := 11) (T := TX11) (v := .ref (ad 193)) C hM (qmem_11 E ad S A b (show qk 188 = 11 from by decide +kernel)) (by decide) rfl hi11 (by decide) hL0 rfl rfl dX11_post_72 ?_
        refine lv_bipush (v := 24) hx hb dX11_post_75 (by decide) ?_
        refine q_iald (v := A 193 24) C hM (show qk 193 = 12 from by decide +kernel) (by rw [(show ql 193 = 37 from by decide +kernel)]; exact (vp_nI (by decide) (by decide) : vp_in (nI 24) 37)) (by rw [show Int32.toNatClampNeg 24 = 24 from by decide]) dX11_post_77 ?_
        refine lv_iload_n hx hb dX11_post_78 rfl (lv_at hl 1 rfl) ?_
        refine lv_ishr hx hb dX11_post_79 ?_
        refine lv_iconst (v := 1) hx hb dX11_post_80 (by decide) ?_
        refine lv_iand hx hb dX11_post_81 ?_
        exact q_iret C hM dX11_post_82 (by exact ⟨⟨rfl, rfl, rfl⟩, by rw [qix_in hka1 (by omega)]; dsimp only [Option.elim]; rw [if_neg (by rw [c_12]; decide), if_neg (by rw [c_12]; decide), if_neg (by rw [c_12]; decide), if_pos c_12]; rfl⟩)
      have n_12_3 := c_12
      have m_12_0 := q_neI (i := 0) (by decide) n_12_0
      have m_12_1 := q_neI (i := 1) (by decide) n_12_1
      have m_12_2 := q_neI (i := 2) (by decide) n_12_2
      have m_12_3 := q_neI (i := 3) (by decide) n_12_3
      refine lv_tableOut (tgt := 83) hx hb dX11_post_12 (by omega) (by decide) ?_
      refine lv_ldc (v := (-1000000002)) hx hb C.2.2.2.1 hL2 dX11_post_83 ?_
      exact q_iret C hM dX11_post_85 (by exact ⟨⟨rfl, rfl, rfl⟩, by rw [qix_in hka1 (by omega)]; dsimp only [Option.elim]; rw [if_neg n_12_0, if_neg n_12_1, if_neg n_12_2, if_neg n_12_3]⟩)
    · skip
      have c_5 : 1 = 0 := (nI_eq (a := 1) (b := 0) (by omega) (by omega)).mp c_5
      exact absurd c_5 (by decide)
  · skip
    subst er_1
    refine lv_if_ne (tgt := 11) hx hb dX11_post_5 (by decide) (fun c_5 => ?_) (fun c_5 => ?_)
    · skip
      have c_5 : ¬ (0 = 0) := fun z => c_5 ((nI_eq (a := 0) (b := 0) (by omega) (by omega)).mpr z)
      exact absurd rfl c_5
    · skip
      have c_5 : 0 = 0 := (nI_eq (a := 0) (b := 0) (by omega) (by omega)).mp c_5
      refine lv_ldc (v := (-1000000001)) hx hb C.2.2.2.1 hL3 dX11_post_8 ?_
      exact q_iret C hM dX11_post_10 (by exact ⟨⟨rfl, rfl, rfl⟩, by rw [qix_out (by omega) hnoa1] <;> rfl⟩)

set_option maxHeartbeats 4000000 in
set_option maxRecDepth 100000 in
theorem c_X11_crow (E : qE) (ad : Nat → Nat) (l : Launch) (S A : qA2) (b : qB) (a1 a2 : Int32) (nP : Nat) (hPo : S 188 4 = nI nP) (hPb : nP ≤ 6) (nK : Nat) (hK : S 188 6 = nI nK) (hKb : nK ≤ 5) : MI E ad l yX11_crow wsX11_crow { frames := 2, cells := 0, slots := 0, locals := 46 } [.ref (ad 188), .int a1, .int a2] S A b (fun r S' A' b' => (S = S' ∧ A = A' ∧ b = b') ∧ r = (qix a1 nK).elim (-1000000001) (fun k => if a2 = 0 then A 193 (25 + k) else if a2 = 1 then A 190 k else if a2 = 2 then mpost (A 193) (nI k) nP else if a2 = 3 then A 193 (30 + k) else (-1000000002))) := by
  refine MI.of (cc := cX11_crow) (maxL := 3) (ret := some .int) RX11 rfl (by decide) rfl ?_
  intro pg e s m below meth cd C hM
  have hx := C.1
  have hb := C.2.1
  have hts := C.2.2.2.2.1
  have hA : ∀ q, s.heap.size ≤ q → qAr ad s.heap.size q := fun _ h => Or.inr h
  have hi11 : ∀ w ∈ u_ws RX11 TX11 45, w ∈ wsX11_crow := by decide +kernel
  have hL0 := hts (.fieldLink RX11 22 "CrowFencesModel" "now" "[I") (by decide +kernel)
  have hL1 := hts (.fieldLink RX11 13 "CrowFencesModel" "likes" "[I") (by decide +kernel)
  have hL2 := hts (.constant RX11 105 (-1000000002)) (by decide +kernel)
  have hL3 := hts (.constant RX11 219 (-1000000001)) (by decide +kernel)
  have hl := lv_entry ([.ref (ad 188), .int a1, .int a2]) (n := 3) (Nat.le_of_ble_eq_true rfl)
  rw [lg_entry_eq]
  generalize (lg_sl ([.ref (ad 188), .int a1, .int a2]) ++ List.replicate (3 - (lg_sl ([.ref (ad 188), .int a1, .int a2])).length) Slot.unset).toArray = ls at hl ⊢
  have hl : lv_has ls 3 [(0, .ref (ad 188)), (1, .int a1), (2, .int a2)] := hl
  refine lv_aload_n hx hb dX11_crow_0 rfl (lv_at hl 0 rfl) ?_
  refine lv_iload_n hx hb dX11_crow_1 rfl (lv_at hl 1 rfl) ?_
  refine q_callVI (n := 1) (o := 188) (As := [.int a1]) (rest := []) C hM hA (c_X11_isCrow E ad l S A b a1 nK hK (by omega)) (qmem_11 E ad S A b (show qk 188 = 11 from by decide +kernel)) (by decide) rfl gX11_crow_X11_isCrow rfl rfl rfl (by decide +kernel) ⟨Nat.le_of_ble_eq_true rfl, Nat.le_of_ble_eq_true rfl⟩ rfl hl.1 rfl (Nat.le_of_ble_eq_true rfl) ⟨Nat.zero_le _, Nat.zero_le _⟩ dX11_crow_2 (fun r_1 S_2 A_3 b_4 H locs qr_1 hM => ?_)
  obtain ⟨⟨e1, e2, e3⟩, hDr_1⟩ := qr_1
  subst e1; subst e2; subst e3
  rcases hDr_1 with ⟨er_1, ka1, hka1, eka1⟩ | ⟨er_1, hnoa1⟩
  · skip
    subst er_1
    subst eka1
    refine lv_if_ne (tgt := 11) hx hb dX11_crow_5 (by decide) (fun c_5 => ?_) (fun c_5 => ?_)
    · skip
      have c_5 : ¬ (1 = 0) := fun z => c_5 ((nI_eq (a := 1) (b := 0) (by omega) (by omega)).mpr z)
      refine lv_iload_n hx hb dX11_crow_11 rfl (lv_at hl 2 rfl) ?_
      by_cases c_12 : a2 = 0
      · have hz : (a2 : Int32).toInt = 0 := by rw [c_12]; rfl
        refine lv_tableIn (off := 32) (tgt := 44) hx hb dX11_crow_12 (by rw [hz]; decide) (by rw [hz]; decide) (by rw [hz]; rfl) (by decide) ?_
        refine lv_aload_n hx hb dX11_crow_44 rfl (lv_at hl 0 rfl) ?_
        refine q_get (o := 188) (ci := 11) (k := 11) (T := TX11) (v := .ref (ad 193)) C hM (qmem_11 E ad S A b (show qk 188 = 11 from by decide +kernel)) (by decide) rfl hi11 (by decide) hL0 rfl rfl dX11_crow_45 ?_
        refine lv_bipush (v := 25) hx hb dX11_crow_48 (by decide) ?_
        refine lv_iload_n hx hb dX11_crow_50 rfl (lv_at hl 1 rfl) ?_
        refine lv_iadd hx hb dX11_crow_51 ?_
        refine lv_as (y := nI (25 + ka1)) (nI_add _ _) ?_
        refine q_iald (v := A 193 (25 + ka1)) C hM (show qk 193 = 12 from by decide +kernel) (by rw [(show ql 193 = 37 from by decide +kernel)]; exact vp_nI (by omega) (by omega)) (by rw [nIc (by omega)]) dX11_crow_52 ?_
        exact q_iret C hM dX11_crow_53 (by exact ⟨⟨rfl, rfl, rfl⟩, by rw [qix_in hka1 (by omega)]; dsimp only [Option.elim]; rw [if_pos c_12]⟩)
      have n_12_0 := c_12
      by_cases c_12 : a2 = 1
      · have hz : (a2 : Int32).toInt = 1 := by rw [c_12]; rfl
        refine lv_tableIn (off := 42) (tgt := 54) hx hb dX11_crow_12 (by rw [hz]; decide) (by rw [hz]; decide) (by rw [hz]; rfl) (by decide) ?_
        refine lv_aload_n hx hb dX11_crow_54 rfl (lv_at hl 0 rfl) ?_
        refine q_get (o := 188) (ci := 11) (k := 7) (T := TX11) (v := .ref (ad 190)) C hM (qmem_11 E ad S A b (show qk 188 = 11 from by decide +kernel)) (by decide) rfl hi11 (by decide) hL1 rfl rfl dX11_crow_55 ?_
        refine lv_iload_n hx hb dX11_crow_58 rfl (lv_at hl 1 rfl) ?_
        refine q_iald (v := A 190 ka1) C hM (show qk 190 = 12 from by decide +kernel) (by rw [(show ql 190 = 5 from by decide +kernel)]; exact vp_nI (by omega) (by omega)) (by rw [nIc (by omega)]) dX11_crow_59 ?_
        exact q_iret C hM dX11_crow_60 (by exact ⟨⟨rfl, rfl, rfl⟩, by rw [qix_in hka1 (by omega)]; dsimp only [Option.elim]; rw [if_neg (by rw [c_12]; decide), if_pos c_12]⟩)
      have n_12_1 := c_12
      by_cases c_12 : a2 = 2
      · have hz : (a2 : Int32).toInt = 2 := by rw [c_12]; rfl
        refine lv_tableIn (off := 49) (tgt := 61) hx hb dX11_crow_12 (by rw [hz]; decide) (by rw [hz]; decide) (by rw [hz]; rfl) (by decide) ?_
        refine lv_aload_n hx hb dX11_crow_61 rfl (lv_at hl 0 rfl) ?_
        refine lv_iload_n hx hb dX11_crow_62 rfl (lv_at hl 1 rfl) ?_
        refine q_callVI (n := 1) (o := 188) (As := [.int (nI ka1)]) (rest := []) C hM hA (c_X11_postOf E ad l S A b (nI ka1) nP hPo (by omega)) (qmem_11 E ad S A b (show qk 188 = 11 from by decide +kernel)) (by decide) rfl gX11_crow_X11_postOf rfl rfl rfl (by decide +kernel) ⟨Nat.le_of_ble_eq_true rfl, Nat.le_of_ble_eq_true rfl⟩ rfl hl.1 rfl (Nat.le_of_ble_eq_true rfl) ⟨Nat.zero_le _, Nat.zero_le _⟩ dX11_crow_63 (fun r_5 S_6 A_7 b_8 H locs qr_5 hM => ?_)
        obtain ⟨⟨e1, e2, e3⟩, er_5⟩ := qr_5
        subst e1; subst e2; subst e3
        exact q_iret C hM dX11_crow_66 (by exact ⟨⟨rfl, rfl, rfl⟩, by rw [qix_in hka1 (by omega)]; dsimp only [Option.elim]; rw [if_neg (by rw [c_12]; decide), if_neg (by rw [c_12]; decide), if_pos c_12, er_5]⟩)
      have n_12_2 := c_12
      by_cases c_12 : a2 = 3
      · have hz : (a2 : Int32).toInt = 3 := by rw [c_12]; rfl
        refine lv_tableIn (off := 55) (tgt := 67) hx hb dX11_crow_12 (by rw [hz]; decide) (by rw [hz]; decide) (by rw [hz]; rfl) (by decide) ?_
        refine lv_aload_n hx hb dX11_crow_67 rfl (lv_at hl 0 rfl) ?_
        refine q_get (o := 188) (ci := 11) (k := 11) (T := TX11) (v := .ref (ad 193)) C hM (qmem_11 E ad S A b (show qk 188 = 11 from by decide +kernel)) (by decide) rfl hi11 (by decide) hL0 rfl rfl dX11_crow_68 ?_
        refine lv_bipush (v := 30) hx hb dX11_crow_71 (by decide) ?_
        refine lv_iload_n hx hb dX11_crow_73 rfl (lv_at hl 1 rfl) ?_
        refine lv_iadd hx hb dX11_crow_74 ?_
        refine lv_as (y := nI (30 + ka1)) (nI_add _ _) ?_
        refine q_iald (v := A 193 (30 + ka1)) C hM (show qk 193 = 12 from by decide +kernel) (by rw [(show ql 193 = 37 from by decide +kernel)]; exact vp_nI (by omega) (by omega)) (by rw [nIc (by omega)]) dX11_crow_75 ?_
        exact q_iret C hM dX11_crow_76 (by exact ⟨⟨rfl, rfl, rfl⟩, by rw [qix_in hka1 (by omega)]; dsimp only [Option.elim]; rw [if_neg (by rw [c_12]; decide), if_neg (by rw [c_12]; decide), if_neg (by rw [c_12]; decide), if_pos c_12]⟩)
      have n_12_3 := c_12
      have m_12_0 := q_neI (i := 0) (by decide) n_12_0
      have m_12_1 := q_neI (i := 1) (by decide) n_12_1
      have m_12_2 := q_neI (i := 2) (by decide) n_12_2
      have m_12_3 := q_neI (i := 3) (by decide) n_12_3
      refine lv_tableOut (tgt := 77) hx hb dX11_crow_12 (by omega) (by decide) ?_
      refine lv_ldc (v := (-1000000002)) hx hb C.2.2.2.1 hL2 dX11_crow_77 ?_
      exact q_iret C hM dX11_crow_79 (by exact ⟨⟨rfl, rfl, rfl⟩, by rw [qix_in hka1 (by omega)]; dsimp only [Option.elim]; rw [if_neg n_12_0, if_neg n_12_1, if_neg n_12_2, if_neg n_12_3]⟩)
    · skip
      have c_5 : 1 = 0 := (nI_eq (a := 1) (b := 0) (by omega) (by omega)).mp c_5
      exact absurd c_5 (by decide)
  · skip
    subst er_1
    refine lv_if_ne (tgt := 11) hx hb dX11_crow_5 (by decide) (fun c_5 => ?_) (fun c_5 => ?_)
    · skip
      have c_5 : ¬ (0 = 0) := fun z => c_5 ((nI_eq (a := 0) (b := 0) (by omega) (by omega)).mpr z)
      exact absurd rfl c_5
    · skip
      have c_5 : 0 = 0 := (nI_eq (a := 0) (b := 0) (by omega) (by omega)).mp c_5
      refine lv_ldc (v := (-1000000001)) hx hb C.2.2.2.1 hL3 dX11_crow_8 ?_
      exact q_iret C hM dX11_crow_10 (by exact ⟨⟨rfl, rfl, rfl⟩, by rw [qix_out (by omega) hnoa1] <;> rfl⟩)

set_option maxHeartbeats 4000000 in
set_option maxRecDepth 100000 in
theorem c_X11_worth (E : qE) (ad : Nat → Nat) (l : Launch) (S A : qA2) (b : qB) (a1 a2 : Int32) (nP : Nat) (hPo : S 188 4 = nI nP) (hPb : nP ≤ 6) (nK : Nat) (hK : S 188 6 = nI nK) (hKb : nK ≤ 5) : MI E ad l yX11_worth wsX11_worth { frames := 2, cells := 0, slots := 0, locals := 46 } [.ref (ad 188), .int a1, .int a2] S A b (fun r S' A' b' => (S = S' ∧ A = A' ∧ b = b') ∧ r = (qix a1 nP).elim (-1000000001) (fun k => (qix a2 nK).elim (-1000000001) (fun c => A 193 (25 + c) + A 190 c * A 189 k))) := by
  refine MI.of (cc := cX11_worth) (maxL := 3) (ret := some .int) RX11 rfl (by decide) rfl ?_
  intro pg e s m below meth cd C hM
  have hx := C.1
  have hb := C.2.1
  have hts := C.2.2.2.2.1
  have hA : ∀ q, s.heap.size ≤ q → qAr ad s.heap.size q := fun _ h => Or.inr h
  have hL0 := hts (.constant RX11 219 (-1000000001)) (by decide +kernel)
  have hl := lv_entry ([.ref (ad 188), .int a1, .int a2]) (n := 3) (Nat.le_of_ble_eq_true rfl)
  rw [lg_entry_eq]
  generalize (lg_sl ([.ref (ad 188), .int a1, .int a2]) ++ List.replicate (3 - (lg_sl ([.ref (ad 188), .int a1, .int a2])).length) Slot.unset).toArray = ls at hl ⊢
  have hl : lv_has ls 3 [(0, .ref (ad 188)), (1, .int a1), (2, .int a2)] := hl
  refine lv_aload_n hx hb dX11_worth_0 rfl (lv_at hl 0 rfl) ?_
  refine lv_iload_n hx hb dX11_worth_1 rfl (lv_at hl 1 rfl) ?_
  refine q_callVI (n := 1) (o := 188) (As := [.int a1]) (rest := []) C hM hA (c_X11_isPost E ad l S A b a1 nP hPo (by omega)) (qmem_11 E ad S A b (show qk 188 = 11 from by decide +kernel)) (by decide) rfl gX11_worth_X11_isPost rfl rfl rfl (by decide +kernel) ⟨Nat.le_of_ble_eq_true rfl, Nat.le_of_ble_eq_true rfl⟩ rfl hl.1 rfl (Nat.le_of_ble_eq_true rfl) ⟨Nat.zero_le _, Nat.zero_le _⟩ dX11_worth_2 (fun r_1 S_2 A_3 b_4 H locs qr_1 hM => ?_)
  obtain ⟨⟨e1, e2, e3⟩, hDr_1⟩ := qr_1
  subst e1; subst e2; subst e3
  rcases hDr_1 with ⟨er_1, ka1, hka1, eka1⟩ | ⟨er_1, hnoa1⟩
  · skip
    subst er_1
    subst eka1
    refine lv_if_eq (tgt := 25) hx hb dX11_worth_5 (by decide) (fun c_5 => ?_) (fun c_5 => ?_)
    · skip
      have c_5 : 1 = 0 := (nI_eq (a := 1) (b := 0) (by omega) (by omega)).mp c_5
      exact absurd c_5 (by decide)
    · skip
      have c_5 : ¬ (1 = 0) := fun z => c_5 ((nI_eq (a := 1) (b := 0) (by omega) (by omega)).mpr z)
      refine lv_aload_n hx hb dX11_worth_8 rfl (lv_at hl 0 rfl) ?_
      refine lv_iload_n hx hb dX11_worth_9 rfl (lv_at hl 2 rfl) ?_
      refine q_callVI (n := 1) (o := 188) (As := [.int a2]) (rest := []) C hM hA (c_X11_isCrow E ad l S A b a2 nK hK (by omega)) (qmem_11 E ad S A b (show qk 188 = 11 from by decide +kernel)) (by decide) rfl gX11_worth_X11_isCrow rfl rfl rfl (by decide +kernel) ⟨Nat.le_of_ble_eq_true rfl, Nat.le_of_ble_eq_true rfl⟩ rfl hl.1 rfl (Nat.le_of_ble_eq_true rfl) ⟨Nat.zero_le _, Nat.zero_le _⟩ dX11_worth_10 (fun r_5 S_6 A_7 b_8 H locs qr_5 hM => ?_)
      obtain ⟨⟨e1, e2, e3⟩, hDr_5⟩ := qr_5
      subst e1; subst e2; subst e3
      rcases hDr_5 with ⟨er_5, ka2, hka2, eka2⟩ | ⟨er_5, hnoa2⟩
      · skip
        subst er_5
        subst eka2
        refine lv_if_eq (tgt := 25) hx hb dX11_worth_13 (by decide) (fun c_13 => ?_) (fun c_13 => ?_)
        · skip
          have c_13 : 1 = 0 := (nI_eq (a := 1) (b := 0) (by omega) (by omega)).mp c_13
          exact absurd c_13 (by decide)
        · skip
          have c_13 : ¬ (1 = 0) := fun z => c_13 ((nI_eq (a := 1) (b := 0) (by omega) (by omega)).mpr z)
          refine lv_aload_n hx hb dX11_worth_16 rfl (lv_at hl 0 rfl) ?_
          refine lv_iload_n hx hb dX11_worth_17 rfl (lv_at hl 1 rfl) ?_
          refine lv_iload_n hx hb dX11_worth_18 rfl (lv_at hl 2 rfl) ?_
          refine q_callVI (n := 2) (o := 188) (As := [.int (nI ka1), .int (nI ka2)]) (rest := []) C hM hA (c_X11_bid E ad l S A b ka1 ka2 (by omega) (by omega)) (qmem_11 E ad S A b (show qk 188 = 11 from by decide +kernel)) (by decide) rfl gX11_worth_X11_bid rfl rfl rfl (by decide +kernel) ⟨Nat.le_of_ble_eq_true rfl, Nat.le_of_ble_eq_true rfl⟩ rfl hl.1 rfl (Nat.le_of_ble_eq_true rfl) ⟨Nat.zero_le _, Nat.zero_le _⟩ dX11_worth_19 (fun r_9 S_10 A_11 b_12 H locs qr_9 hM => ?_)
          obtain ⟨⟨e1, e2, e3⟩, er_9⟩ := qr_9
          subst e1; subst e2; subst e3
          refine lv_goto (tgt := 27) hx hb dX11_worth_22 (by decide) ?_
          exact q_iret C hM dX11_worth_27 (by exact ⟨⟨rfl, rfl, rfl⟩, by rw [qix_in hka1 (by omega)]; dsimp only [Option.elim]; rw [qix_in hka2 (by omega), er_9] <;> rfl⟩)
      · skip
        subst er_5
        refine lv_if_eq (tgt := 25) hx hb dX11_worth_13 (by decide) (fun c_13 => ?_) (fun c_13 => ?_)
        · skip
          have c_13 : 0 = 0 := (nI_eq (a := 0) (b := 0) (by omega) (by omega)).mp c_13
          refine lv_ldc (v := (-1000000001)) hx hb C.2.2.2.1 hL0 dX11_worth_25 ?_
          exact q_iret C hM dX11_worth_27 (by exact ⟨⟨rfl, rfl, rfl⟩, by rw [qix_in hka1 (by omega)]; dsimp only [Option.elim]; rw [qix_out (by omega) hnoa2] <;> rfl⟩)
        · skip
          have c_13 : ¬ (0 = 0) := fun z => c_13 ((nI_eq (a := 0) (b := 0) (by omega) (by omega)).mpr z)
          exact absurd rfl c_13
  · skip
    subst er_1
    refine lv_if_eq (tgt := 25) hx hb dX11_worth_5 (by decide) (fun c_5 => ?_) (fun c_5 => ?_)
    · skip
      have c_5 : 0 = 0 := (nI_eq (a := 0) (b := 0) (by omega) (by omega)).mp c_5
      refine lv_ldc (v := (-1000000001)) hx hb C.2.2.2.1 hL0 dX11_worth_25 ?_
      exact q_iret C hM dX11_worth_27 (by exact ⟨⟨rfl, rfl, rfl⟩, by rw [qix_out (by omega) hnoa1] <;> rfl⟩)
    · skip
      have c_5 : ¬ (0 = 0) := fun z => c_5 ((nI_eq (a := 0) (b := 0) (by omega) (by omega)).mpr z)
      exact absurd rfl c_5

set_option maxHeartbeats 4000000 in
set_option maxRecDepth 100000 in
theorem c_X11_out (E : qE) (ad : Nat → Nat) (l : Launch) (S A : qA2) (b : qB) (a1 a2 : Int32) (nC : Nat) (hC : S 188 0 = nI nC) (hCb : nC ≤ 12) : MI E ad l yX11_out wsX11_out { frames := 2, cells := 0, slots := 0, locals := 46 } [.ref (ad 188), .int a1, .int a2] S A b (fun r S' A' b' => (S = S' ∧ A = A' ∧ b = b') ∧ r = (qix a1 nC).elim (-1000000001) (fun k => (qir a2 1 99).elim (-1000000002) (fun t => (A 193 k + nI t - 1) / nI t))) := by
  refine MI.of (cc := cX11_out) (maxL := 3) (ret := some .int) RX11 rfl (by decide) rfl ?_
  intro pg e s m below meth cd C hM
  have hx := C.1
  have hb := C.2.1
  have hts := C.2.2.2.2.1
  have hA : ∀ q, s.heap.size ≤ q → qAr ad s.heap.size q := fun _ h => Or.inr h
  have hi11 : ∀ w ∈ u_ws RX11 TX11 45, w ∈ wsX11_out := by decide +kernel
  have hL0 := hts (.constantLong RX11 264 (99)) (by decide +kernel)
  have hL1 := hts (.fieldLink RX11 22 "CrowFencesModel" "now" "[I") (by decide +kernel)
  have hL2 := hts (.constant RX11 105 (-1000000002)) (by decide +kernel)
  have hL3 := hts (.constant RX11 219 (-1000000001)) (by decide +kernel)
  have hl := lv_entry ([.ref (ad 188), .int a1, .int a2]) (n := 3) (Nat.le_of_ble_eq_true rfl)
  rw [lg_entry_eq]
  generalize (lg_sl ([.ref (ad 188), .int a1, .int a2]) ++ List.replicate (3 - (lg_sl ([.ref (ad 188), .int a1, .int a2])).length) Slot.unset).toArray = ls at hl ⊢
  have hl : lv_has ls 3 [(0, .ref (ad 188)), (1, .int a1), (2, .int a2)] := hl
  refine lv_aload_n hx hb dX11_out_0 rfl (lv_at hl 0 rfl) ?_
  refine lv_iload_n hx hb dX11_out_1 rfl (lv_at hl 1 rfl) ?_
  refine q_callVI (n := 1) (o := 188) (As := [.int a1]) (rest := []) C hM hA (c_X11_isCell E ad l S A b a1 nC hC (by omega)) (qmem_11 E ad S A b (show qk 188 = 11 from by decide +kernel)) (by decide) rfl gX11_out_X11_isCell rfl rfl rfl (by decide +kernel) ⟨Nat.le_of_ble_eq_true rfl, Nat.le_of_ble_eq_true rfl⟩ rfl hl.1 rfl (Nat.le_of_ble_eq_true rfl) ⟨Nat.zero_le _, Nat.zero_le _⟩ dX11_out_2 (fun r_1 S_2 A_3 b_4 H locs qr_1 hM => ?_)
  obtain ⟨⟨e1, e2, e3⟩, hDr_1⟩ := qr_1
  subst e1; subst e2; subst e3
  rcases hDr_1 with ⟨er_1, ka1, hka1, eka1⟩ | ⟨er_1, hnoa1⟩
  · skip
    subst er_1
    subst eka1
    refine lv_if_ne (tgt := 11) hx hb dX11_out_5 (by decide) (fun c_5 => ?_) (fun c_5 => ?_)
    · skip
      have c_5 : ¬ (1 = 0) := fun z => c_5 ((nI_eq (a := 1) (b := 0) (by omega) (by omega)).mpr z)
      refine lv_iload_n hx hb dX11_out_11 rfl (lv_at hl 2 rfl) ?_
      refine lv_i2l (v := (a2 : Int32).toInt64) hx hb dX11_out_12 rfl ?_
      refine lv_lconst (v := 1) hx hb dX11_out_13 rfl ?_
      refine lv_ldc2 (v := 99) hx hb C.2.2.2.1 hL0 dX11_out_14 ?_
      refine q_callSI (n := 3) (As := [.long ((a2 : Int32).toInt64), .long 1, .long 99]) (rest := []) C hM hA (c_X11_in E ad l S A b ((a2 : Int32).toInt64) 1 99) gX11_out_X11_in rfl rfl rfl (by decide +kernel) ⟨Nat.le_of_ble_eq_true rfl, Nat.le_of_ble_eq_true rfl⟩ rfl hl.1 rfl (Nat.le_of_ble_eq_true rfl) ⟨Nat.zero_le _, Nat.zero_le _⟩ dX11_out_17 (fun r_5 S_6 A_7 b_8 H locs qr_5 hM => ?_)
      obtain ⟨⟨e1, e2, e3⟩, er_5⟩ := qr_5
      subst e1; subst e2; subst e3
      rw [q64 (x := a2) (lo := 1) (hi := 99) (by first | rfl | decide) (by first | rfl | decide)] at er_5
      rcases q01_cases (1 ≤ a2 ∧ a2 ≤ 99) with ⟨hzr_5, hir_5⟩ | ⟨hzr_5, hir_5⟩
      · skip
        rw [hzr_5] at er_5
        subst er_5
        obtain ⟨ka2, hloka2, hhika2, eka2⟩ := qin_of (l := 1) (h := 99) rfl rfl (by omega) (by omega) hir_5
        subst eka2
        refine lv_if_eq (tgt := 38) hx hb dX11_out_20 (by decide) (fun c_20 => ?_) (fun c_20 => ?_)
        · skip
          have c_20 : 1 = 0 := (nI_eq (a := 1) (b := 0) (by omega) (by omega)).mp c_20
          exact absurd c_20 (by decide)
        · skip
          have c_20 : ¬ (1 = 0) := fun z => c_20 ((nI_eq (a := 1) (b := 0) (by omega) (by omega)).mpr z)
          refine lv_aload_n hx hb dX11_out_23 rfl (lv_at hl 0 rfl) ?_
          refine q_get (o := 188) (ci := 11) (k := 11) (T := TX11) (v := .ref (ad 193)) C hM (qmem_11 E ad S A b (show qk 188 = 11 from by decide +kernel)) (by decide) rfl hi11 (by decide) hL1 rfl rfl dX11_out_24 ?_
          refine lv_iload_n hx hb dX11_out_27 rfl (lv_at hl 1 rfl) ?_
          refine q_iald (v := A 193 ka1) C hM (show qk 193 = 12 from by decide +kernel) (by rw [(show ql 193 = 37 from by decide +kernel)]; exact vp_nI (by omega) (by omega)) (by rw [nIc (by omega)]) dX11_out_28 ?_
          refine lv_iload_n hx hb dX11_out_29 rfl (lv_at hl 2 rfl) ?_
          refine lv_iadd hx hb dX11_out_30 ?_
          refine lv_iconst (v := 1) hx hb dX11_out_31 (by decide) ?_
          refine lv_isub hx hb dX11_out_32 ?_
          refine lv_iload_n hx hb dX11_out_33 rfl (lv_at hl 2 rfl) ?_
          refine lv_idiv hx hb dX11_out_34 (nI_ne0 (by omega) (by omega)) ?_
          refine lv_goto (tgt := 40) hx hb dX11_out_35 (by decide) ?_
          exact q_iret C hM dX11_out_40 (by exact ⟨⟨rfl, rfl, rfl⟩, by rw [qix_in hka1 (by omega)]; dsimp only [Option.elim]; rw [qir_in hloka2 hhika2 (by omega)] <;> rfl⟩)
      · skip
        rw [hzr_5] at er_5
        subst er_5
        refine lv_if_eq (tgt := 38) hx hb dX11_out_20 (by decide) (fun c_20 => ?_) (fun c_20 => ?_)
        · skip
          have c_20 : 0 = 0 := (nI_eq (a := 0) (b := 0) (by omega) (by omega)).mp c_20
          refine lv_ldc (v := (-1000000002)) hx hb C.2.2.2.1 hL2 dX11_out_38 ?_
          exact q_iret C hM dX11_out_40 (by exact ⟨⟨rfl, rfl, rfl⟩, by rw [qix_in hka1 (by omega)]; dsimp only [Option.elim]; rw [qir_out hir_5] <;> rfl⟩)
        · skip
          have c_20 : ¬ (0 = 0) := fun z => c_20 ((nI_eq (a := 0) (b := 0) (by omega) (by omega)).mpr z)
          exact absurd rfl c_20
    · skip
      have c_5 : 1 = 0 := (nI_eq (a := 1) (b := 0) (by omega) (by omega)).mp c_5
      exact absurd c_5 (by decide)
  · skip
    subst er_1
    refine lv_if_ne (tgt := 11) hx hb dX11_out_5 (by decide) (fun c_5 => ?_) (fun c_5 => ?_)
    · skip
      have c_5 : ¬ (0 = 0) := fun z => c_5 ((nI_eq (a := 0) (b := 0) (by omega) (by omega)).mpr z)
      exact absurd rfl c_5
    · skip
      have c_5 : 0 = 0 := (nI_eq (a := 0) (b := 0) (by omega) (by omega)).mp c_5
      refine lv_ldc (v := (-1000000001)) hx hb C.2.2.2.1 hL3 dX11_out_8 ?_
      exact q_iret C hM dX11_out_10 (by exact ⟨⟨rfl, rfl, rfl⟩, by rw [qix_out (by omega) hnoa1] <;> rfl⟩)

set_option maxHeartbeats 4000000 in
set_option maxRecDepth 100000 in
theorem c_X11_still (E : qE) (ad : Nat → Nat) (l : Launch) (S A : qA2) (b : qB) (a1 a2 : Int32) : MI E ad l yX11_still wsX11_still { frames := 1, cells := 0, slots := 0, locals := 25 } [.ref (ad 188), .int a1, .int a2] S A b (fun r S' A' b' => (S = S' ∧ A = A' ∧ b = b') ∧ r = (qir a1 0 60).elim (-1000000002) (fun n => (qir a2 0 100).elim (-1000000002) (fun q => (qstill q n).toInt32))) := by
  refine MI.of (cc := cX11_still) (maxL := 6) (ret := some .int) RX11 rfl (by decide) rfl ?_
  intro pg e s m below meth cd C hM
  have hx := C.1
  have hb := C.2.1
  have hts := C.2.2.2.2.1
  have hA : ∀ q, s.heap.size ≤ q → qAr ad s.heap.size q := fun _ h => Or.inr h
  have hL0 := hts (.constantLong RX11 245 (60)) (by decide +kernel)
  have hL1 := hts (.constantLong RX11 312 (100)) (by decide +kernel)
  have hL2 := hts (.constantLong RX11 314 (1000000000)) (by decide +kernel)
  have hL3 := hts (.constant RX11 105 (-1000000002)) (by decide +kernel)
  have hl := lv_entry ([.ref (ad 188), .int a1, .int a2]) (n := 6) (Nat.le_of_ble_eq_true rfl)
  rw [lg_entry_eq]
  generalize (lg_sl ([.ref (ad 188), .int a1, .int a2]) ++ List.replicate (6 - (lg_sl ([.ref (ad 188), .int a1, .int a2])).length) Slot.unset).toArray = ls at hl ⊢
  have hl : lv_has ls 6 [(0, .ref (ad 188)), (1, .int a1), (2, .int a2)] := hl
  refine lv_iload_n hx hb dX11_still_0 rfl (lv_at hl 1 rfl) ?_
  refine lv_i2l (v := (a1 : Int32).toInt64) hx hb dX11_still_1 rfl ?_
  refine lv_lconst (v := 0) hx hb dX11_still_2 rfl ?_
  refine lv_ldc2 (v := 60) hx hb C.2.2.2.1 hL0 dX11_still_3 ?_
  refine q_callSI (n := 3) (As := [.long ((a1 : Int32).toInt64), .long 0, .long 60]) (rest := []) C hM hA (c_X11_in E ad l S A b ((a1 : Int32).toInt64) 0 60) gX11_still_X11_in rfl rfl rfl (by decide +kernel) ⟨Nat.le_of_ble_eq_true rfl, Nat.le_of_ble_eq_true rfl⟩ rfl hl.1 rfl (Nat.le_of_ble_eq_true rfl) ⟨Nat.zero_le _, Nat.zero_le _⟩ dX11_still_6 (fun r_1 S_2 A_3 b_4 H locs qr_1 hM => ?_)
  obtain ⟨⟨e1, e2, e3⟩, er_1⟩ := qr_1
  subst e1; subst e2; subst e3
  rw [q64 (x := a1) (lo := 0) (hi := 60) (by first | rfl | decide) (by first | rfl | decide)] at er_1
  rcases q01_cases (0 ≤ a1 ∧ a1 ≤ 60) with ⟨hzr_1, hir_1⟩ | ⟨hzr_1, hir_1⟩
  · skip
    rw [hzr_1] at er_1
    subst er_1
    obtain ⟨ka1, hloka1, hhika1, eka1⟩ := qin_of (l := 0) (h := 60) rfl rfl (by omega) (by omega) hir_1
    subst eka1
    refine lv_if_eq (tgt := 24) hx hb dX11_still_9 (by decide) (fun c_9 => ?_) (fun c_9 => ?_)
    · skip
      have c_9 : 1 = 0 := (nI_eq (a := 1) (b := 0) (by omega) (by omega)).mp c_9
      exact absurd c_9 (by decide)
    · skip
      have c_9 : ¬ (1 = 0) := fun z => c_9 ((nI_eq (a := 1) (b := 0) (by omega) (by omega)).mpr z)
      refine lv_iload_n hx hb dX11_still_12 rfl (lv_at hl 2 rfl) ?_
      refine lv_i2l (v := (a2 : Int32).toInt64) hx hb dX11_still_13 rfl ?_
      refine lv_lconst (v := 0) hx hb dX11_still_14 rfl ?_
      refine lv_ldc2 (v := 100) hx hb C.2.2.2.1 hL1 dX11_still_15 ?_
      refine q_callSI (n := 3) (As := [.long ((a2 : Int32).toInt64), .long 0, .long 100]) (rest := []) C hM hA (c_X11_in E ad l S A b ((a2 : Int32).toInt64) 0 100) gX11_still_X11_in rfl rfl rfl (by decide +kernel) ⟨Nat.le_of_ble_eq_true rfl, Nat.le_of_ble_eq_true rfl⟩ rfl hl.1 rfl (Nat.le_of_ble_eq_true rfl) ⟨Nat.zero_le _, Nat.zero_le _⟩ dX11_still_18 (fun r_5 S_6 A_7 b_8 H locs qr_5 hM => ?_)
      obtain ⟨⟨e1, e2, e3⟩, er_5⟩ := qr_5
      subst e1; subst e2; subst e3
      rw [q64 (x := a2) (lo := 0) (hi := 100) (by first | rfl | decide) (by first | rfl | decide)] at er_5
      rcases q01_cases (0 ≤ a2 ∧ a2 ≤ 100) with ⟨hzr_5, hir_5⟩ | ⟨hzr_5, hir_5⟩
      · skip
        rw [hzr_5] at er_5
        subst er_5
        obtain ⟨ka2, hloka2, hhika2, eka2⟩ := qin_of (l := 0) (h := 100) rfl rfl (by omega) (by omega) hir_5
        subst eka2
        refine lv_if_ne (tgt := 27) hx hb dX11_still_21 (by decide) (fun c_21 => ?_) (fun c_21 => ?_)
        · skip
          have c_21 : ¬ (1 = 0) := fun z => c_21 ((nI_eq (a := 1) (b := 0) (by omega) (by omega)).mpr z)
          refine lv_ldc2 (v := 1000000000) hx hb C.2.2.2.1 hL2 dX11_still_27 ?_
          refine lv_lstore_n (lv' := [(3, .long 1000000000), (0, .ref (ad 188)), (1, .int (nI ka1)), (2, .int (nI ka2))]) hx hb dX11_still_30 rfl hl (by decide) rfl (fun ls hl => ?_)
          refine lv_iconst (v := 0) hx hb dX11_still_31 (by decide) ?_
          refine lv_istore (lv' := [(5, .int 0), (3, .long 1000000000), (0, .ref (ad 188)), (1, .int (nI ka1)), (2, .int (nI ka2))]) hx hb dX11_still_32 hl (by decide) rfl (fun ls hl => ?_)
          have loop34 : ∀ (fu : Nat) (od : Int64) (k : Nat) (hk : k ≤ ka1) (ht : od = qstill ka2 k), ka1 - k < fu → ∀ (H : Heap) (locs : List Loc) (ls : Array Slot), qM E ad S A b (qAr ad s.heap.size) s H locs → lv_has ls 6 [(5, .int (nI k)), (3, .long od), (0, .ref (ad 188)), (1, .int (nI ka1)), (2, .int (nI ka2))] → W pg l e (headSpec wsX11_still { frames := 1, cells := 0, slots := 0, locals := 25 }).room s m ([.ref (ad 188), .int (nI ka1), .int (nI ka2)] : List Value).toArray below meth cd H locs 0 0 (MQ below (qQi E ad s.heap.size (fun r S' A' b' => (S = S' ∧ A = A' ∧ b = b') ∧ r = (qir (nI ka1) 0 60).elim (-1000000002) (fun n => (qir (nI ka2) 0 100).elim (-1000000002) (fun q => (qstill q n).toInt32)))) ([.ref (ad 188), .int (nI ka1), .int (nI ka2)] : List Value).toArray s 0 0 (qAr ad s.heap.size)) (F0 m 34 ls []) := by
            intro fu
            induction fu with
            | zero => intro od k hk ht hn; exact absurd hn (Nat.not_lt_zero _)
            | succ fu ih34 =>
              intro od k hk ht hn H locs ls hM hl
              refine lv_iload hx hb dX11_still_34 (lv_at hl 0 rfl) ?_
              refine lv_iload_n hx hb dX11_still_36 rfl (lv_at hl 3 rfl) ?_
              refine lv_icmp_ge (tgt := 58) hx hb dX11_still_37 (by decide) (fun c_37 => ?_) (fun c_37 => ?_)
              · skip
                have c_37 : ka1 ≤ k := (nI_leI (a := ka1) (b := k) (by omega) (by omega)).mp c_37
                refine lv_lload_n hx hb dX11_still_58 rfl (lv_at hl 1 rfl) ?_
                refine lv_l2i (v := (od : Int64).toInt32) hx hb dX11_still_59 rfl ?_
                exact q_iret C hM dX11_still_60 (by exact ⟨⟨rfl, rfl, rfl⟩, by rw [qir_in hloka1 hhika1 (by omega)]; dsimp only [Option.elim]; rw [qir_in hloka2 hhika2 (by omega)]; rw [ht, show k = ka1 by omega]⟩)
              · skip
                have c_37 : ¬ (ka1 ≤ k) := fun z => c_37 ((nI_leI (a := ka1) (b := k) (by omega) (by omega)).mpr z)
                refine lv_lload_n hx hb dX11_still_40 rfl (lv_at hl 1 rfl) ?_
                refine lv_bipush (v := 100) hx hb dX11_still_41 (by decide) ?_
                refine lv_iload_n hx hb dX11_still_43 rfl (lv_at hl 4 rfl) ?_
                refine lv_isub hx hb dX11_still_44 ?_
                refine lv_i2l (v := (100 - (nI ka2) : Int32).toInt64) hx hb dX11_still_45 rfl ?_
                refine lv_lmul hx hb dX11_still_46 ?_
                refine lv_ldc2 (v := 100) hx hb C.2.2.2.1 hL1 dX11_still_47 ?_
                refine lv_ldiv hx hb dX11_still_50 (by decide) ?_
                refine lv_lstore_n (lv' := [(3, .long ((od * ((100 - (nI ka2) : Int32).toInt64)) / 100)), (5, .int (nI k)), (0, .ref (ad 188)), (1, .int (nI ka1)), (2, .int (nI ka2))]) hx hb dX11_still_51 rfl hl (by decide) rfl (fun ls hl => ?_)
                refine lv_iinc (v := nI (k + 1)) (lv' := [(5, .int (nI (k + 1))), (3, .long ((od * ((100 - (nI ka2) : Int32).toInt64)) / 100)), (0, .ref (ad 188)), (1, .int (nI ka1)), (2, .int (nI ka2))]) hx hb dX11_still_52 hl (k := 1) rfl (by rw [nI_succ]; rfl) (by decide) rfl (fun ls hl => ?_)
                refine lv_goto (tgt := 34) hx hb dX11_still_55 (by decide) ?_
                exact ih34 ((od * ((100 - (nI ka2) : Int32).toInt64)) / 100) (k + 1) (by omega) (by rw [ht]; rfl) (by omega) _ _ _ hM hl
          exact loop34 (ka1 - 0 + 1) 1000000000 0 (by omega) rfl (Nat.lt_succ_self _) _ _ _ hM hl
        · skip
          have c_21 : 1 = 0 := (nI_eq (a := 1) (b := 0) (by omega) (by omega)).mp c_21
          exact absurd c_21 (by decide)
      · skip
        rw [hzr_5] at er_5
        subst er_5
        refine lv_if_ne (tgt := 27) hx hb dX11_still_21 (by decide) (fun c_21 => ?_) (fun c_21 => ?_)
        · skip
          have c_21 : ¬ (0 = 0) := fun z => c_21 ((nI_eq (a := 0) (b := 0) (by omega) (by omega)).mpr z)
          exact absurd rfl c_21
        · skip
          have c_21 : 0 = 0 := (nI_eq (a := 0) (b := 0) (by omega) (by omega)).mp c_21
          refine lv_ldc (v := (-1000000002)) hx hb C.2.2.2.1 hL3 dX11_still_24 ?_
          exact q_iret C hM dX11_still_26 (by exact ⟨⟨rfl, rfl, rfl⟩, by rw [qir_in hloka1 hhika1 (by omega)]; dsimp only [Option.elim]; rw [qir_out hir_5] <;> rfl⟩)
  · skip
    rw [hzr_1] at er_1
    subst er_1
    refine lv_if_eq (tgt := 24) hx hb dX11_still_9 (by decide) (fun c_9 => ?_) (fun c_9 => ?_)
    · skip
      have c_9 : 0 = 0 := (nI_eq (a := 0) (b := 0) (by omega) (by omega)).mp c_9
      refine lv_ldc (v := (-1000000002)) hx hb C.2.2.2.1 hL3 dX11_still_24 ?_
      exact q_iret C hM dX11_still_26 (by exact ⟨⟨rfl, rfl, rfl⟩, by rw [qir_out hir_1] <;> rfl⟩)
    · skip
      have c_9 : ¬ (0 = 0) := fun z => c_9 ((nI_eq (a := 0) (b := 0) (by omega) (by omega)).mpr z)
      exact absurd rfl c_9

set_option maxHeartbeats 4000000 in
set_option maxRecDepth 100000 in
theorem c_X11_judge (E : qE) (ad : Nat → Nat) (l : Launch) (S A : qA2) (b : qB) (nB : Nat) (hN : S 188 40 = nI nB) (hNb : nB ≤ 15) (bc : Nat → Nat) (hbc : ∀ k, k < nB → A 210 k = nI (bc k) ∧ bc k < 12) : MI E ad l yX11_judge wsX11_judge { frames := 0, cells := 0, slots := 0, locals := 0 } [.ref (ad 188)] S A b (fun r S' A' b' => (S = S' ∧ A = A' ∧ b = b') ∧ r = qwrong (A 193) bc (A 211) 0 nB) := by
  refine MI.of (cc := cX11_judge) (maxL := 2) (ret := some .int) RX11 rfl (by decide) rfl ?_
  intro pg e s m below meth cd C hM
  have hx := C.1
  have hb := C.2.1
  have hts := C.2.2.2.2.1
  have hA : ∀ q, s.heap.size ≤ q → qAr ad s.heap.size q := fun _ h => Or.inr h
  have hi11 : ∀ w ∈ u_ws RX11 TX11 45, w ∈ wsX11_judge := by decide +kernel
  have hL0 := hts (.fieldLink RX11 201 "CrowFencesModel" "booked" "I") (by decide +kernel)
  have hL1 := hts (.fieldLink RX11 22 "CrowFencesModel" "now" "[I") (by decide +kernel)
  have hL2 := hts (.fieldLink RX11 78 "CrowFencesModel" "bookAt" "[I") (by decide +kernel)
  have hL3 := hts (.fieldLink RX11 81 "CrowFencesModel" "bookSnow" "[I") (by decide +kernel)
  have hl := lv_entry ([.ref (ad 188)]) (n := 2) (Nat.le_of_ble_eq_true rfl)
  rw [lg_entry_eq]
  generalize (lg_sl ([.ref (ad 188)]) ++ List.replicate (2 - (lg_sl ([.ref (ad 188)])).length) Slot.unset).toArray = ls at hl ⊢
  have hl : lv_has ls 2 [(0, .ref (ad 188))] := hl
  refine lv_iconst (v := 0) hx hb dX11_judge_0 (by decide) ?_
  refine lv_istore_n (lv' := [(1, .int 0), (0, .ref (ad 188))]) hx hb dX11_judge_1 rfl hl (by decide) rfl (fun ls hl => ?_)
  have loop2 : ∀ (fu : Nat) (k : Nat) (hk : k ≤ nB) (hv : qwrong (A 193) bc (A 211) 0 nB = qwrong (A 193) bc (A 211) k (nB - k)), nB - k < fu → ∀ (H : Heap) (locs : List Loc) (ls : Array Slot), qM E ad S A b (qAr ad s.heap.size) s H locs → lv_has ls 2 [(1, .int (nI k)), (0, .ref (ad 188))] → W pg l e (headSpec wsX11_judge { frames := 0, cells := 0, slots := 0, locals := 0 }).room s m ([.ref (ad 188)] : List Value).toArray below meth cd H locs 0 0 (MQ below (qQi E ad s.heap.size (fun r S' A' b' => (S = S' ∧ A = A' ∧ b = b') ∧ r = qwrong (A 193) bc (A 211) 0 nB)) ([.ref (ad 188)] : List Value).toArray s 0 0 (qAr ad s.heap.size)) (F0 m 2 ls []) := by
    intro fu
    induction fu with
    | zero => intro k hk hv hn; exact absurd hn (Nat.not_lt_zero _)
    | succ fu ih2 =>
      intro k hk hv hn H locs ls hM hl
      refine lv_iload_n hx hb dX11_judge_2 rfl (lv_at hl 0 rfl) ?_
      refine lv_aload_n hx hb dX11_judge_3 rfl (lv_at hl 1 rfl) ?_
      refine q_get (o := 188) (ci := 11) (k := 40) (T := TX11) (v := .int (S 188 40)) C hM (qmem_11 E ad S A b (show qk 188 = 11 from by decide +kernel)) (by decide) rfl hi11 (by decide) hL0 rfl rfl dX11_judge_4 ?_
      refine lv_as (y := nI nB) hN ?_
      refine lv_icmp_ge (tgt := 38) hx hb dX11_judge_7 (by decide) (fun c_7 => ?_) (fun c_7 => ?_)
      · skip
        have c_7 : nB ≤ k := (nI_leI (a := nB) (b := k) (by omega) (by omega)).mp c_7
        refine lv_iconst (v := (-1)) hx hb dX11_judge_38 (by decide) ?_
        exact q_iret C hM dX11_judge_39 (by exact ⟨⟨rfl, rfl, rfl⟩, (by rw [hv, show nB - k = 0 by omega]; rfl)⟩)
      · skip
        have c_7 : ¬ (nB ≤ k) := fun z => c_7 ((nI_leI (a := nB) (b := k) (by omega) (by omega)).mpr z)
        refine lv_aload_n hx hb dX11_judge_10 rfl (lv_at hl 1 rfl) ?_
        refine q_get (o := 188) (ci := 11) (k := 11) (T := TX11) (v := .ref (ad 193)) C hM (qmem_11 E ad S A b (show qk 188 = 11 from by decide +kernel)) (by decide) rfl hi11 (by decide) hL1 rfl rfl dX11_judge_11 ?_
        refine lv_aload_n hx hb dX11_judge_14 rfl (lv_at hl 1 rfl) ?_
        refine q_get (o := 188) (ci := 11) (k := 41) (T := TX11) (v := .ref (ad 210)) C hM (qmem_11 E ad S A b (show qk 188 = 11 from by decide +kernel)) (by decide) rfl hi11 (by decide) hL2 rfl rfl dX11_judge_15 ?_
        refine lv_iload_n hx hb dX11_judge_18 rfl (lv_at hl 0 rfl) ?_
        refine q_iald (v := A 210 k) C hM (show qk 210 = 12 from by decide +kernel) (by rw [(show ql 210 = 15 from by decide +kernel)]; exact vp_nI (by omega) (by omega)) (by rw [nIc (by omega)]) dX11_judge_19 ?_
        refine lv_as (y := nI (bc k)) (hbc k (by omega)).1 ?_
        have hb12 := (hbc k (by omega)).2
        refine q_iald (v := A 193 (bc k)) C hM (show qk 193 = 12 from by decide +kernel) (by rw [(show ql 193 = 37 from by decide +kernel)]; exact vp_nI (by omega) (by omega)) (by rw [nIc (by omega)]) dX11_judge_20 ?_
        refine lv_aload_n hx hb dX11_judge_21 rfl (lv_at hl 1 rfl) ?_
        refine q_get (o := 188) (ci := 11) (k := 42) (T := TX11) (v := .ref (ad 211)) C hM (qmem_11 E ad S A b (show qk 188 = 11 from by decide +kernel)) (by decide) rfl hi11 (by decide) hL3 rfl rfl dX11_judge_22 ?_
        refine lv_iload_n hx hb dX11_judge_25 rfl (lv_at hl 0 rfl) ?_
        refine q_iald (v := A 211 k) C hM (show qk 211 = 12 from by decide +kernel) (by rw [(show ql 211 = 15 from by decide +kernel)]; exact vp_nI (by omega) (by omega)) (by rw [nIc (by omega)]) dX11_judge_26 ?_
        refine lv_icmp_eq (tgt := 32) hx hb dX11_judge_27 (by decide) (fun c_27 => ?_) (fun c_27 => ?_)
        · skip
          refine lv_iinc (v := nI (k + 1)) (lv' := [(1, .int (nI (k + 1))), (0, .ref (ad 188))]) hx hb dX11_judge_32 hl (k := 0) rfl (by rw [nI_succ]; rfl) (by decide) rfl (fun ls hl => ?_)
          refine lv_goto (tgt := 2) hx hb dX11_judge_35 (by decide) ?_
          exact ih2 (k + 1) (by omega) (by rw [hv, show nB - k = (nB - (k + 1)) + 1 by omega]; exact if_pos c_27) (by omega) _ _ _ hM hl
        · skip
          refine lv_iload_n hx hb dX11_judge_30 rfl (lv_at hl 0 rfl) ?_
          exact q_iret C hM dX11_judge_31 (by exact ⟨⟨rfl, rfl, rfl⟩, (by rw [hv, show nB - k = (nB - (k + 1)) + 1 by omega]; exact (if_neg c_27).symm)⟩)
  exact loop2 (nB - 0 + 1) 0 (by omega) rfl (Nat.lt_succ_self _) _ _ _ hM hl

set_option maxHeartbeats 4000000 in
set_option maxRecDepth 100000 in
theorem c_X11_seed (E : qE) (ad : Nat → Nat) (l : Launch) (S A : qA2) (b : qB) (a1 : Int32) : MI E ad l yX11_seed wsX11_seed { frames := 0, cells := 0, slots := 0, locals := 0 } [.ref (ad 188), .int a1] S A b (fun r S' A' b' => (A = A' ∧ b = b') ∧ ((a1 < 0 ∧ r = (-1000000002) ∧ S = S') ∨ (¬ a1 < 0 ∧ r = S 188 12 ∧ S' = q2 S 188 12 a1))) := by
  refine MI.of (cc := cX11_seed) (maxL := 3) (ret := some .int) RX11 rfl (by decide) rfl ?_
  intro pg e s m below meth cd C hM
  have hx := C.1
  have hb := C.2.1
  have hts := C.2.2.2.2.1
  have hA : ∀ q, s.heap.size ≤ q → qAr ad s.heap.size q := fun _ h => Or.inr h
  have hi11 : ∀ w ∈ u_ws RX11 TX11 45, w ∈ wsX11_seed := by decide +kernel
  have hL0 := hts (.fieldLink RX11 266 "CrowFencesModel" "seed" "I") (by decide +kernel)
  have hL1 := hts (.constant RX11 105 (-1000000002)) (by decide +kernel)
  have hl := lv_entry ([.ref (ad 188), .int a1]) (n := 3) (Nat.le_of_ble_eq_true rfl)
  rw [lg_entry_eq]
  generalize (lg_sl ([.ref (ad 188), .int a1]) ++ List.replicate (3 - (lg_sl ([.ref (ad 188), .int a1])).length) Slot.unset).toArray = ls at hl ⊢
  have hl : lv_has ls 3 [(0, .ref (ad 188)), (1, .int a1)] := hl
  refine lv_iload_n hx hb dX11_seed_0 rfl (lv_at hl 1 rfl) ?_
  refine lv_if_ge (tgt := 7) hx hb dX11_seed_1 (by decide) (fun c_1 => ?_) (fun c_1 => ?_)
  · skip
    refine lv_aload_n hx hb dX11_seed_7 rfl (lv_at hl 0 rfl) ?_
    refine q_get (o := 188) (ci := 11) (k := 12) (T := TX11) (v := .int (S 188 12)) C hM (qmem_11 E ad S A b (show qk 188 = 11 from by decide +kernel)) (by decide) rfl hi11 (by decide) hL0 rfl rfl dX11_seed_8 ?_
    refine lv_istore_n (lv' := [(2, .int (S 188 12)), (0, .ref (ad 188)), (1, .int a1)]) hx hb dX11_seed_11 rfl hl (by decide) rfl (fun ls hl => ?_)
    refine lv_aload_n hx hb dX11_seed_12 rfl (lv_at hl 1 rfl) ?_
    refine lv_iload_n hx hb dX11_seed_13 rfl (lv_at hl 2 rfl) ?_
    refine q_put (o := 188) (ci := 11) (k := 12) (T := TX11) (ty := .int) (v := a1) C hM (qmem_11 E ad S A b (show qk 188 = 11 from by decide +kernel)) (by decide) rfl hi11 tyX11 tyX11_ok nmX11 (by decide) hL0 rfl rfl (by decide +kernel) rfl rfl (Nat.le_of_ble_eq_true rfl) (qs_11_12 E ad S A b (show qk 188 = 11 from by decide +kernel) a1) dX11_seed_14 (fun H locs hM => ?_)
    obtain ⟨S_1, eS_1⟩ : ∃ zz, zz = q2 S 188 12 a1 := ⟨_, rfl⟩
    rw [← eS_1] at hM
    refine lv_iload_n hx hb dX11_seed_17 rfl (lv_at hl 0 rfl) ?_
    exact q_iret C hM dX11_seed_18 (by exact ⟨⟨rfl, rfl⟩, Or.inr ⟨Int32.not_lt.mpr c_1, rfl, eS_1⟩⟩)
  · skip
    refine lv_ldc (v := (-1000000002)) hx hb C.2.2.2.1 hL1 dX11_seed_4 ?_
    exact q_iret C hM dX11_seed_6 (by exact ⟨⟨rfl, rfl⟩, Or.inl ⟨Int32.not_le.mp c_1, rfl, rfl⟩⟩)

set_option maxHeartbeats 4000000 in
set_option maxRecDepth 100000 in
theorem c_X11_tear (E : qE) (ad : Nat → Nat) (l : Launch) (S A : qA2) (b : qB) : MI E ad l yX11_tear wsX11_tear { frames := 0, cells := 0, slots := 0, locals := 0 } [.ref (ad 188)] S A b (fun r S' A' b' => (A = A' ∧ b = b') ∧ r = S 188 36 + S 188 40 ∧ S' = q2 (q2 S 188 36 0) 188 40 0) := by
  refine MI.of (cc := cX11_tear) (maxL := 2) (ret := some .int) RX11 rfl (by decide) rfl ?_
  intro pg e s m below meth cd C hM
  have hx := C.1
  have hb := C.2.1
  have hts := C.2.2.2.2.1
  have hA : ∀ q, s.heap.size ≤ q → qAr ad s.heap.size q := fun _ h => Or.inr h
  have hi11 : ∀ w ∈ u_ws RX11 TX11 45, w ∈ wsX11_tear := by decide +kernel
  have hL0 := hts (.fieldLink RX11 198 "CrowFencesModel" "seen" "I") (by decide +kernel)
  have hL1 := hts (.fieldLink RX11 201 "CrowFencesModel" "booked" "I") (by decide +kernel)
  have hl := lv_entry ([.ref (ad 188)]) (n := 2) (Nat.le_of_ble_eq_true rfl)
  rw [lg_entry_eq]
  generalize (lg_sl ([.ref (ad 188)]) ++ List.replicate (2 - (lg_sl ([.ref (ad 188)])).length) Slot.unset).toArray = ls at hl ⊢
  have hl : lv_has ls 2 [(0, .ref (ad 188))] := hl
  refine lv_aload_n hx hb dX11_tear_0 rfl (lv_at hl 0 rfl) ?_
  refine q_get (o := 188) (ci := 11) (k := 36) (T := TX11) (v := .int (S 188 36)) C hM (qmem_11 E ad S A b (show qk 188 = 11 from by decide +kernel)) (by decide) rfl hi11 (by decide) hL0 rfl rfl dX11_tear_1 ?_
  refine lv_aload_n hx hb dX11_tear_4 rfl (lv_at hl 0 rfl) ?_
  refine q_get (o := 188) (ci := 11) (k := 40) (T := TX11) (v := .int (S 188 40)) C hM (qmem_11 E ad S A b (show qk 188 = 11 from by decide +kernel)) (by decide) rfl hi11 (by decide) hL1 rfl rfl dX11_tear_5 ?_
  refine lv_iadd hx hb dX11_tear_8 ?_
  refine lv_topi (fun x1_1 ex1_1 => ?_)
  refine lv_istore_n (lv' := [(1, .int x1_1), (0, .ref (ad 188))]) hx hb dX11_tear_9 rfl hl (by decide) rfl (fun ls hl => ?_)
  refine lv_aload_n hx hb dX11_tear_10 rfl (lv_at hl 1 rfl) ?_
  refine lv_iconst (v := 0) hx hb dX11_tear_11 (by decide) ?_
  refine q_put (o := 188) (ci := 11) (k := 36) (T := TX11) (ty := .int) (v := 0) C hM (qmem_11 E ad S A b (show qk 188 = 11 from by decide +kernel)) (by decide) rfl hi11 tyX11 tyX11_ok nmX11 (by decide) hL0 rfl rfl (by decide +kernel) rfl rfl (Nat.le_of_ble_eq_true rfl) (qs_11_36 E ad S A b (show qk 188 = 11 from by decide +kernel) 0) dX11_tear_12 (fun H locs hM => ?_)
  obtain ⟨S_2, eS_2⟩ : ∃ zz, zz = q2 S 188 36 0 := ⟨_, rfl⟩
  rw [← eS_2] at hM
  refine lv_aload_n hx hb dX11_tear_15 rfl (lv_at hl 1 rfl) ?_
  refine lv_iconst (v := 0) hx hb dX11_tear_16 (by decide) ?_
  refine q_put (o := 188) (ci := 11) (k := 40) (T := TX11) (ty := .int) (v := 0) C hM (qmem_11 E ad S_2 A b (show qk 188 = 11 from by decide +kernel)) (by decide) rfl hi11 tyX11 tyX11_ok nmX11 (by decide) hL1 rfl rfl (by decide +kernel) rfl rfl (Nat.le_of_ble_eq_true rfl) (qs_11_40 E ad S_2 A b (show qk 188 = 11 from by decide +kernel) 0) dX11_tear_17 (fun H locs hM => ?_)
  obtain ⟨S_3, eS_3⟩ : ∃ zz, zz = q2 S_2 188 40 0 := ⟨_, rfl⟩
  rw [← eS_3] at hM
  refine lv_iload_n hx hb dX11_tear_20 rfl (lv_at hl 0 rfl) ?_
  exact q_iret C hM dX11_tear_21 (by exact ⟨⟨rfl, rfl⟩, ex1_1, by subst_vars; rfl⟩)

set_option maxHeartbeats 4000000 in
set_option maxRecDepth 100000 in
theorem c_X11_see (E : qE) (ad : Nat → Nat) (l : Launch) (S A : qA2) (b : qB) (a1 a2 : Int32) (nP : Nat) (hPo : S 188 4 = nI nP) (hPb : nP ≤ 6) (nK : Nat) (hK : S 188 6 = nI nK) (hKb : nK ≤ 5) (nS : Nat) (hS : S 188 36 = nI nS) (hSb : nS ≤ 6) : MI E ad l yX11_see wsX11_see { frames := 2, cells := 0, slots := 0, locals := 46 } [.ref (ad 188), .int a1, .int a2] S A b (fun r S' A' b' => b = b' ∧ ((¬ (qix a1 nK).elim (-1000000001) (fun _ => (qix a2 nP).elim (-1000000001) (fun _ => if nS < 6 then 0 else (-1000000004))) = 0 ∧ r = (qix a1 nK).elim (-1000000001) (fun _ => (qix a2 nP).elim (-1000000001) (fun _ => if nS < 6 then 0 else (-1000000004))) ∧ S = S' ∧ A = A') ∨ ((qix a1 nK).elim (-1000000001) (fun _ => (qix a2 nP).elim (-1000000001) (fun _ => if nS < 6 then 0 else (-1000000004))) = 0 ∧ ∃ c k, c < nK ∧ k < nP ∧ a1 = nI c ∧ a2 = nI k ∧ r = nI (nS + 1) ∧ S' = q2 S 188 36 (nI (nS + 1)) ∧ A' = q2 (q2 A 207 nS (nI c)) 208 nS (nI k)))) := by
  refine MI.of (cc := cX11_see) (maxL := 3) (ret := some .int) RX11 rfl (by decide) rfl ?_
  intro pg e s m below meth cd C hM
  have hx := C.1
  have hb := C.2.1
  have hts := C.2.2.2.2.1
  have hA : ∀ q, s.heap.size ≤ q → qAr ad s.heap.size q := fun _ h => Or.inr h
  have hi11 : ∀ w ∈ u_ws RX11 TX11 45, w ∈ wsX11_see := by decide +kernel
  have hL0 := hts (.fieldLink RX11 198 "CrowFencesModel" "seen" "I") (by decide +kernel)
  have hL1 := hts (.fieldLink RX11 69 "CrowFencesModel" "seenWho" "[I") (by decide +kernel)
  have hL2 := hts (.fieldLink RX11 72 "CrowFencesModel" "seenOn" "[I") (by decide +kernel)
  have hL3 := hts (.constant RX11 109 (-1000000004)) (by decide +kernel)
  have hL4 := hts (.constant RX11 219 (-1000000001)) (by decide +kernel)
  have hl := lv_entry ([.ref (ad 188), .int a1, .int a2]) (n := 3) (Nat.le_of_ble_eq_true rfl)
  rw [lg_entry_eq]
  generalize (lg_sl ([.ref (ad 188), .int a1, .int a2]) ++ List.replicate (3 - (lg_sl ([.ref (ad 188), .int a1, .int a2])).length) Slot.unset).toArray = ls at hl ⊢
  have hl : lv_has ls 3 [(0, .ref (ad 188)), (1, .int a1), (2, .int a2)] := hl
  refine lv_aload_n hx hb dX11_see_0 rfl (lv_at hl 0 rfl) ?_
  refine lv_iload_n hx hb dX11_see_1 rfl (lv_at hl 1 rfl) ?_
  refine q_callVI (n := 1) (o := 188) (As := [.int a1]) (rest := []) C hM hA (c_X11_isCrow E ad l S A b a1 nK hK (by omega)) (qmem_11 E ad S A b (show qk 188 = 11 from by decide +kernel)) (by decide) rfl gX11_see_X11_isCrow rfl rfl rfl (by decide +kernel) ⟨Nat.le_of_ble_eq_true rfl, Nat.le_of_ble_eq_true rfl⟩ rfl hl.1 rfl (Nat.le_of_ble_eq_true rfl) ⟨Nat.zero_le _, Nat.zero_le _⟩ dX11_see_2 (fun r_1 S_2 A_3 b_4 H locs qr_1 hM => ?_)
  obtain ⟨⟨e1, e2, e3⟩, hDr_1⟩ := qr_1
  subst e1; subst e2; subst e3
  rcases hDr_1 with ⟨er_1, ka1, hka1, eka1⟩ | ⟨er_1, hnoa1⟩
  · skip
    subst er_1
    subst eka1
    refine lv_if_eq (tgt := 16) hx hb dX11_see_5 (by decide) (fun c_5 => ?_) (fun c_5 => ?_)
    · skip
      have c_5 : 1 = 0 := (nI_eq (a := 1) (b := 0) (by omega) (by omega)).mp c_5
      exact absurd c_5 (by decide)
    · skip
      have c_5 : ¬ (1 = 0) := fun z => c_5 ((nI_eq (a := 1) (b := 0) (by omega) (by omega)).mpr z)
      refine lv_aload_n hx hb dX11_see_8 rfl (lv_at hl 0 rfl) ?_
      refine lv_iload_n hx hb dX11_see_9 rfl (lv_at hl 2 rfl) ?_
      refine q_callVI (n := 1) (o := 188) (As := [.int a2]) (rest := []) C hM hA (c_X11_isPost E ad l S A b a2 nP hPo (by omega)) (qmem_11 E ad S A b (show qk 188 = 11 from by decide +kernel)) (by decide) rfl gX11_see_X11_isPost rfl rfl rfl (by decide +kernel) ⟨Nat.le_of_ble_eq_true rfl, Nat.le_of_ble_eq_true rfl⟩ rfl hl.1 rfl (Nat.le_of_ble_eq_true rfl) ⟨Nat.zero_le _, Nat.zero_le _⟩ dX11_see_10 (fun r_5 S_6 A_7 b_8 H locs qr_5 hM => ?_)
      obtain ⟨⟨e1, e2, e3⟩, hDr_5⟩ := qr_5
      subst e1; subst e2; subst e3
      rcases hDr_5 with ⟨er_5, ka2, hka2, eka2⟩ | ⟨er_5, hnoa2⟩
      · skip
        subst er_5
        subst eka2
        refine lv_if_ne (tgt := 19) hx hb dX11_see_13 (by decide) (fun c_13 => ?_) (fun c_13 => ?_)
        · skip
          have c_13 : ¬ (1 = 0) := fun z => c_13 ((nI_eq (a := 1) (b := 0) (by omega) (by omega)).mpr z)
          refine lv_aload_n hx hb dX11_see_19 rfl (lv_at hl 0 rfl) ?_
          refine q_get (o := 188) (ci := 11) (k := 36) (T := TX11) (v := .int (S 188 36)) C hM (qmem_11 E ad S A b (show qk 188 = 11 from by decide +kernel)) (by decide) rfl hi11 (by decide) hL0 rfl rfl dX11_see_20 ?_
          refine lv_as (y := nI nS) hS ?_
          refine lv_bipush (v := 6) hx hb dX11_see_23 (by decide) ?_
          refine lv_icmp_ne (tgt := 31) hx hb dX11_see_25 (by decide) (fun c_25 => ?_) (fun c_25 => ?_)
          · skip
            have c_25 : ¬ (nS = 6) := fun z => c_25 ((nI_eq (a := nS) (b := 6) (by omega) (by omega)).mpr z)
            refine lv_aload_n hx hb dX11_see_31 rfl (lv_at hl 0 rfl) ?_
            refine q_get (o := 188) (ci := 11) (k := 37) (T := TX11) (v := .ref (ad 207)) C hM (qmem_11 E ad S A b (show qk 188 = 11 from by decide +kernel)) (by decide) rfl hi11 (by decide) hL1 rfl rfl dX11_see_32 ?_
            refine lv_aload_n hx hb dX11_see_35 rfl (lv_at hl 0 rfl) ?_
            refine q_get (o := 188) (ci := 11) (k := 36) (T := TX11) (v := .int (S 188 36)) C hM (qmem_11 E ad S A b (show qk 188 = 11 from by decide +kernel)) (by decide) rfl hi11 (by decide) hL0 rfl rfl dX11_see_36 ?_
            refine lv_as (y := nI nS) hS ?_
            refine lv_iload_n hx hb dX11_see_39 rfl (lv_at hl 1 rfl) ?_
            refine q_iast C hM (show qk 207 = 12 from by decide +kernel) (by rw [(show ql 207 = 6 from by decide +kernel)]; exact vp_nI (by omega) (by omega)) dX11_see_40 (fun H locs hM => ?_)
            rw [nIc (by omega)] at hM
            obtain ⟨A_9, eA_9⟩ : ∃ zz, zz = q2 A 207 nS (nI ka1) := ⟨_, rfl⟩
            rw [← eA_9] at hM
            refine lv_aload_n hx hb dX11_see_41 rfl (lv_at hl 0 rfl) ?_
            refine q_get (o := 188) (ci := 11) (k := 38) (T := TX11) (v := .ref (ad 208)) C hM (qmem_11 E ad S A_9 b (show qk 188 = 11 from by decide +kernel)) (by decide) rfl hi11 (by decide) hL2 rfl rfl dX11_see_42 ?_
            refine lv_aload_n hx hb dX11_see_45 rfl (lv_at hl 0 rfl) ?_
            refine q_get (o := 188) (ci := 11) (k := 36) (T := TX11) (v := .int (S 188 36)) C hM (qmem_11 E ad S A_9 b (show qk 188 = 11 from by decide +kernel)) (by decide) rfl hi11 (by decide) hL0 rfl rfl dX11_see_46 ?_
            refine lv_as (y := nI nS) hS ?_
            refine lv_iload_n hx hb dX11_see_49 rfl (lv_at hl 2 rfl) ?_
            refine q_iast C hM (show qk 208 = 12 from by decide +kernel) (by rw [(show ql 208 = 6 from by decide +kernel)]; exact vp_nI (by omega) (by omega)) dX11_see_50 (fun H locs hM => ?_)
            rw [nIc (by omega)] at hM
            obtain ⟨A_10, eA_10⟩ : ∃ zz, zz = q2 A_9 208 nS (nI ka2) := ⟨_, rfl⟩
            rw [← eA_10] at hM
            refine lv_aload_n hx hb dX11_see_51 rfl (lv_at hl 0 rfl) ?_
            refine lv_dup hx hb dX11_see_52 rfl ?_
            refine q_get (o := 188) (ci := 11) (k := 36) (T := TX11) (v := .int (S 188 36)) C hM (qmem_11 E ad S A_10 b (show qk 188 = 11 from by decide +kernel)) (by decide) rfl hi11 (by decide) hL0 rfl rfl dX11_see_53 ?_
            refine lv_as (y := nI nS) hS ?_
            refine lv_iconst (v := 1) hx hb dX11_see_56 (by decide) ?_
            refine lv_iadd hx hb dX11_see_57 ?_
            refine lv_as (y := nI (nS + 1)) (nI_add _ _) ?_
            refine q_put (o := 188) (ci := 11) (k := 36) (T := TX11) (ty := .int) (v := nI (nS + 1)) C hM (qmem_11 E ad S A_10 b (show qk 188 = 11 from by decide +kernel)) (by decide) rfl hi11 tyX11 tyX11_ok nmX11 (by decide) hL0 rfl rfl (by decide +kernel) rfl rfl (Nat.le_of_ble_eq_true rfl) (qs_11_36 E ad S A_10 b (show qk 188 = 11 from by decide +kernel) (nI (nS + 1))) dX11_see_58 (fun H locs hM => ?_)
            obtain ⟨S_11, eS_11⟩ : ∃ zz, zz = q2 S 188 36 (nI (nS + 1)) := ⟨_, rfl⟩
            rw [← eS_11] at hM
            refine lv_aload_n hx hb dX11_see_61 rfl (lv_at hl 0 rfl) ?_
            refine q_get (o := 188) (ci := 11) (k := 36) (T := TX11) (v := .int (nI (nS + 1))) C hM (qmem_11 E ad S_11 A_10 b (show qk 188 = 11 from by decide +kernel)) (by decide) rfl hi11 (by decide) hL0 rfl (congrArg (fun z => some (Value.int z)) (show S_11 188 36 = nI (nS + 1) from by rw [eS_11]; exact q2_s _ _ _ _)) dX11_see_62 ?_
            exact q_iret C hM dX11_see_65 (by rw [qix_in hka1 (by omega)]; dsimp only [Option.elim]; rw [qix_in hka2 (by omega)]; dsimp only [Option.elim]; exact ⟨rfl, Or.inr ⟨by rw [if_pos (by omega)], ka1, ka2, hka1, hka2, rfl, rfl, rfl, eS_11, by rw [eA_10, eA_9]⟩⟩)
          · skip
            have c_25 : nS = 6 := (nI_eq (a := nS) (b := 6) (by omega) (by omega)).mp c_25
            refine lv_ldc (v := (-1000000004)) hx hb C.2.2.2.1 hL3 dX11_see_28 ?_
            exact q_iret C hM dX11_see_30 (by rw [qix_in hka1 (by omega)]; dsimp only [Option.elim]; rw [qix_in hka2 (by omega)]; dsimp only [Option.elim]; exact ⟨rfl, Or.inl ⟨by rw [if_neg (by omega)]; decide, by rw [if_neg (by omega)], rfl, rfl⟩⟩)
        · skip
          have c_13 : 1 = 0 := (nI_eq (a := 1) (b := 0) (by omega) (by omega)).mp c_13
          exact absurd c_13 (by decide)
      · skip
        subst er_5
        refine lv_if_ne (tgt := 19) hx hb dX11_see_13 (by decide) (fun c_13 => ?_) (fun c_13 => ?_)
        · skip
          have c_13 : ¬ (0 = 0) := fun z => c_13 ((nI_eq (a := 0) (b := 0) (by omega) (by omega)).mpr z)
          exact absurd rfl c_13
        · skip
          have c_13 : 0 = 0 := (nI_eq (a := 0) (b := 0) (by omega) (by omega)).mp c_13
          refine lv_ldc (v := (-1000000001)) hx hb C.2.2.2.1 hL4 dX11_see_16 ?_
          exact q_iret C hM dX11_see_18 (by rw [qix_in hka1 (by omega)]; dsimp only [Option.elim]; rw [qix_out (by omega) hnoa2]; dsimp only [Option.elim]; exact ⟨rfl, Or.inl ⟨by decide, rfl, rfl, rfl⟩⟩)
  · skip
    subst er_1
    refine lv_if_eq (tgt := 16) hx hb dX11_see_5 (by decide) (fun c_5 => ?_) (fun c_5 => ?_)
    · skip
      have c_5 : 0 = 0 := (nI_eq (a := 0) (b := 0) (by omega) (by omega)).mp c_5
      refine lv_ldc (v := (-1000000001)) hx hb C.2.2.2.1 hL4 dX11_see_16 ?_
      exact q_iret C hM dX11_see_18 (by rw [qix_out (by omega) hnoa1]; dsimp only [Option.elim]; exact ⟨rfl, Or.inl ⟨by decide, rfl, rfl, rfl⟩⟩)
    · skip
      have c_5 : ¬ (0 = 0) := fun z => c_5 ((nI_eq (a := 0) (b := 0) (by omega) (by omega)).mpr z)
      exact absurd rfl c_5

set_option maxHeartbeats 4000000 in
set_option maxRecDepth 100000 in
theorem c_X11_write (E : qE) (ad : Nat → Nat) (l : Launch) (S A : qA2) (b : qB) (a1 a2 : Int32) (nC : Nat) (hC : S 188 0 = nI nC) (hCb : nC ≤ 12) (nB : Nat) (hN : S 188 40 = nI nB) (hNb : nB ≤ 15) : MI E ad l yX11_write wsX11_write { frames := 2, cells := 0, slots := 0, locals := 46 } [.ref (ad 188), .int a1, .int a2] S A b (fun r S' A' b' => b = b' ∧ ((¬ (qix a1 nC).elim (-1000000001) (fun _ => (qir a2 0 9999).elim (-1000000002) (fun _ => if nB < 15 then 0 else (-1000000004))) = 0 ∧ r = (qix a1 nC).elim (-1000000001) (fun _ => (qir a2 0 9999).elim (-1000000002) (fun _ => if nB < 15 then 0 else (-1000000004))) ∧ S = S' ∧ A = A') ∨ ((qix a1 nC).elim (-1000000001) (fun _ => (qir a2 0 9999).elim (-1000000002) (fun _ => if nB < 15 then 0 else (-1000000004))) = 0 ∧ ∃ c k, c < nC ∧ k ≤ 9999 ∧ a1 = nI c ∧ a2 = nI k ∧ r = nI (nB + 1) ∧ S' = q2 S 188 40 (nI (nB + 1)) ∧ A' = q2 (q2 A 210 nB (nI c)) 211 nB (nI k)))) := by
  refine MI.of (cc := cX11_write) (maxL := 3) (ret := some .int) RX11 rfl (by decide) rfl ?_
  intro pg e s m below meth cd C hM
  have hx := C.1
  have hb := C.2.1
  have hts := C.2.2.2.2.1
  have hA : ∀ q, s.heap.size ≤ q → qAr ad s.heap.size q := fun _ h => Or.inr h
  have hi11 : ∀ w ∈ u_ws RX11 TX11 45, w ∈ wsX11_write := by decide +kernel
  have hL0 := hts (.constantLong RX11 326 (9999)) (by decide +kernel)
  have hL1 := hts (.fieldLink RX11 201 "CrowFencesModel" "booked" "I") (by decide +kernel)
  have hL2 := hts (.fieldLink RX11 78 "CrowFencesModel" "bookAt" "[I") (by decide +kernel)
  have hL3 := hts (.fieldLink RX11 81 "CrowFencesModel" "bookSnow" "[I") (by decide +kernel)
  have hL4 := hts (.constant RX11 109 (-1000000004)) (by decide +kernel)
  have hL5 := hts (.constant RX11 105 (-1000000002)) (by decide +kernel)
  have hL6 := hts (.constant RX11 219 (-1000000001)) (by decide +kernel)
  have hl := lv_entry ([.ref (ad 188), .int a1, .int a2]) (n := 3) (Nat.le_of_ble_eq_true rfl)
  rw [lg_entry_eq]
  generalize (lg_sl ([.ref (ad 188), .int a1, .int a2]) ++ List.replicate (3 - (lg_sl ([.ref (ad 188), .int a1, .int a2])).length) Slot.unset).toArray = ls at hl ⊢
  have hl : lv_has ls 3 [(0, .ref (ad 188)), (1, .int a1), (2, .int a2)] := hl
  refine lv_aload_n hx hb dX11_write_0 rfl (lv_at hl 0 rfl) ?_
  refine lv_iload_n hx hb dX11_write_1 rfl (lv_at hl 1 rfl) ?_
  refine q_callVI (n := 1) (o := 188) (As := [.int a1]) (rest := []) C hM hA (c_X11_isCell E ad l S A b a1 nC hC (by omega)) (qmem_11 E ad S A b (show qk 188 = 11 from by decide +kernel)) (by decide) rfl gX11_write_X11_isCell rfl rfl rfl (by decide +kernel) ⟨Nat.le_of_ble_eq_true rfl, Nat.le_of_ble_eq_true rfl⟩ rfl hl.1 rfl (Nat.le_of_ble_eq_true rfl) ⟨Nat.zero_le _, Nat.zero_le _⟩ dX11_write_2 (fun r_1 S_2 A_3 b_4 H locs qr_1 hM => ?_)
  obtain ⟨⟨e1, e2, e3⟩, hDr_1⟩ := qr_1
  subst e1; subst e2; subst e3
  rcases hDr_1 with ⟨er_1, ka1, hka1, eka1⟩ | ⟨er_1, hnoa1⟩
  · skip
    subst er_1
    subst eka1
    refine lv_if_ne (tgt := 11) hx hb dX11_write_5 (by decide) (fun c_5 => ?_) (fun c_5 => ?_)
    · skip
      have c_5 : ¬ (1 = 0) := fun z => c_5 ((nI_eq (a := 1) (b := 0) (by omega) (by omega)).mpr z)
      refine lv_iload_n hx hb dX11_write_11 rfl (lv_at hl 2 rfl) ?_
      refine lv_i2l (v := (a2 : Int32).toInt64) hx hb dX11_write_12 rfl ?_
      refine lv_lconst (v := 0) hx hb dX11_write_13 rfl ?_
      refine lv_ldc2 (v := 9999) hx hb C.2.2.2.1 hL0 dX11_write_14 ?_
      refine q_callSI (n := 3) (As := [.long ((a2 : Int32).toInt64), .long 0, .long 9999]) (rest := []) C hM hA (c_X11_in E ad l S A b ((a2 : Int32).toInt64) 0 9999) gX11_write_X11_in rfl rfl rfl (by decide +kernel) ⟨Nat.le_of_ble_eq_true rfl, Nat.le_of_ble_eq_true rfl⟩ rfl hl.1 rfl (Nat.le_of_ble_eq_true rfl) ⟨Nat.zero_le _, Nat.zero_le _⟩ dX11_write_17 (fun r_5 S_6 A_7 b_8 H locs qr_5 hM => ?_)
      obtain ⟨⟨e1, e2, e3⟩, er_5⟩ := qr_5
      subst e1; subst e2; subst e3
      rw [q64 (x := a2) (lo := 0) (hi := 9999) (by first | rfl | decide) (by first | rfl | decide)] at er_5
      rcases q01_cases (0 ≤ a2 ∧ a2 ≤ 9999) with ⟨hzr_5, hir_5⟩ | ⟨hzr_5, hir_5⟩
      · skip
        rw [hzr_5] at er_5
        subst er_5
        obtain ⟨ka2, hloka2, hhika2, eka2⟩ := qin_of (l := 0) (h := 9999) rfl rfl (by omega) (by omega) hir_5
        subst eka2
        refine lv_if_ne (tgt := 26) hx hb dX11_write_20 (by decide) (fun c_20 => ?_) (fun c_20 => ?_)
        · skip
          have c_20 : ¬ (1 = 0) := fun z => c_20 ((nI_eq (a := 1) (b := 0) (by omega) (by omega)).mpr z)
          refine lv_aload_n hx hb dX11_write_26 rfl (lv_at hl 0 rfl) ?_
          refine q_get (o := 188) (ci := 11) (k := 40) (T := TX11) (v := .int (S 188 40)) C hM (qmem_11 E ad S A b (show qk 188 = 11 from by decide +kernel)) (by decide) rfl hi11 (by decide) hL1 rfl rfl dX11_write_27 ?_
          refine lv_as (y := nI nB) hN ?_
          refine lv_bipush (v := 15) hx hb dX11_write_30 (by decide) ?_
          refine lv_icmp_ne (tgt := 38) hx hb dX11_write_32 (by decide) (fun c_32 => ?_) (fun c_32 => ?_)
          · skip
            have c_32 : ¬ (nB = 15) := fun z => c_32 ((nI_eq (a := nB) (b := 15) (by omega) (by omega)).mpr z)
            refine lv_aload_n hx hb dX11_write_38 rfl (lv_at hl 0 rfl) ?_
            refine q_get (o := 188) (ci := 11) (k := 41) (T := TX11) (v := .ref (ad 210)) C hM (qmem_11 E ad S A b (show qk 188 = 11 from by decide +kernel)) (by decide) rfl hi11 (by decide) hL2 rfl rfl dX11_write_39 ?_
            refine lv_aload_n hx hb dX11_write_42 rfl (lv_at hl 0 rfl) ?_
            refine q_get (o := 188) (ci := 11) (k := 40) (T := TX11) (v := .int (S 188 40)) C hM (qmem_11 E ad S A b (show qk 188 = 11 from by decide +kernel)) (by decide) rfl hi11 (by decide) hL1 rfl rfl dX11_write_43 ?_
            refine lv_as (y := nI nB) hN ?_
            refine lv_iload_n hx hb dX11_write_46 rfl (lv_at hl 1 rfl) ?_
            refine q_iast C hM (show qk 210 = 12 from by decide +kernel) (by rw [(show ql 210 = 15 from by decide +kernel)]; exact vp_nI (by omega) (by omega)) dX11_write_47 (fun H locs hM => ?_)
            rw [nIc (by omega)] at hM
            obtain ⟨A_9, eA_9⟩ : ∃ zz, zz = q2 A 210 nB (nI ka1) := ⟨_, rfl⟩
            rw [← eA_9] at hM
            refine lv_aload_n hx hb dX11_write_48 rfl (lv_at hl 0 rfl) ?_
            refine q_get (o := 188) (ci := 11) (k := 42) (T := TX11) (v := .ref (ad 211)) C hM (qmem_11 E ad S A_9 b (show qk 188 = 11 from by decide +kernel)) (by decide) rfl hi11 (by decide) hL3 rfl rfl dX11_write_49 ?_
            refine lv_aload_n hx hb dX11_write_52 rfl (lv_at hl 0 rfl) ?_
            refine q_get (o := 188) (ci := 11) (k := 40) (T := TX11) (v := .int (S 188 40)) C hM (qmem_11 E ad S A_9 b (show qk 188 = 11 from by decide +kernel)) (by decide) rfl hi11 (by decide) hL1 rfl rfl dX11_write_53 ?_
            refine lv_as (y := nI nB) hN ?_
            refine lv_iload_n hx hb dX11_write_56 rfl (lv_at hl 2 rfl) ?_
            refine q_iast C hM (show qk 211 = 12 from by decide +kernel) (by rw [(show ql 211 = 15 from by decide +kernel)]; exact vp_nI (by omega) (by omega)) dX11_write_57 (fun H locs hM => ?_)
            rw [nIc (by omega)] at hM
            obtain ⟨A_10, eA_10⟩ : ∃ zz, zz = q2 A_9 211 nB (nI ka2) := ⟨_, rfl⟩
            rw [← eA_10] at hM
            refine lv_aload_n hx hb dX11_write_58 rfl (lv_at hl 0 rfl) ?_
            refine lv_dup hx hb dX11_write_59 rfl ?_
            refine q_get (o := 188) (ci := 11) (k := 40) (T := TX11) (v := .int (S 188 40)) C hM (qmem_11 E ad S A_10 b (show qk 188 = 11 from by decide +kernel)) (by decide) rfl hi11 (by decide) hL1 rfl rfl dX11_write_60 ?_
            refine lv_as (y := nI nB) hN ?_
            refine lv_iconst (v := 1) hx hb dX11_write_63 (by decide) ?_
            refine lv_iadd hx hb dX11_write_64 ?_
            refine lv_as (y := nI (nB + 1)) (nI_add _ _) ?_
            refine q_put (o := 188) (ci := 11) (k := 40) (T := TX11) (ty := .int) (v := nI (nB + 1)) C hM (qmem_11 E ad S A_10 b (show qk 188 = 11 from by decide +kernel)) (by decide) rfl hi11 tyX11 tyX11_ok nmX11 (by decide) hL1 rfl rfl (by decide +kernel) rfl rfl (Nat.le_of_ble_eq_true rfl) (qs_11_40 E ad S A_10 b (show qk 188 = 11 from by decide +kernel) (nI (nB + 1))) dX11_write_65 (fun H locs hM => ?_)
            obtain ⟨S_11, eS_11⟩ : ∃ zz, zz = q2 S 188 40 (nI (nB + 1)) := ⟨_, rfl⟩
            rw [← eS_11] at hM
            refine lv_aload_n hx hb dX11_write_68 rfl (lv_at hl 0 rfl) ?_
            refine q_get (o := 188) (ci := 11) (k := 40) (T := TX11) (v := .int (nI (nB + 1))) C hM (qmem_11 E ad S_11 A_10 b (show qk 188 = 11 from by decide +kernel)) (by decide) rfl hi11 (by decide) hL1 rfl (congrArg (fun z => some (Value.int z)) (show S_11 188 40 = nI (nB + 1) from by rw [eS_11]; exact q2_s _ _ _ _)) dX11_write_69 ?_
            exact q_iret C hM dX11_write_72 (by rw [qix_in hka1 (by omega)]; dsimp only [Option.elim]; rw [qir_in hloka2 hhika2 (by omega)]; dsimp only [Option.elim]; exact ⟨rfl, Or.inr ⟨by rw [if_pos (by omega)], ka1, ka2, hka1, hhika2, rfl, rfl, rfl, eS_11, by rw [eA_10, eA_9]⟩⟩)
          · skip
            have c_32 : nB = 15 := (nI_eq (a := nB) (b := 15) (by omega) (by omega)).mp c_32
            refine lv_ldc (v := (-1000000004)) hx hb C.2.2.2.1 hL4 dX11_write_35 ?_
            exact q_iret C hM dX11_write_37 (by rw [qix_in hka1 (by omega)]; dsimp only [Option.elim]; rw [qir_in hloka2 hhika2 (by omega)]; dsimp only [Option.elim]; exact ⟨rfl, Or.inl ⟨by rw [if_neg (by omega)]; decide, by rw [if_neg (by omega)], rfl, rfl⟩⟩)
        · skip
          have c_20 : 1 = 0 := (nI_eq (a := 1) (b := 0) (by omega) (by omega)).mp c_20
          exact absurd c_20 (by decide)
      · skip
        rw [hzr_5] at er_5
        subst er_5
        refine lv_if_ne (tgt := 26) hx hb dX11_write_20 (by decide) (fun c_20 => ?_) (fun c_20 => ?_)
        · skip
          have c_20 : ¬ (0 = 0) := fun z => c_20 ((nI_eq (a := 0) (b := 0) (by omega) (by omega)).mpr z)
          exact absurd rfl c_20
        · skip
          have c_20 : 0 = 0 := (nI_eq (a := 0) (b := 0) (by omega) (by omega)).mp c_20
          refine lv_ldc (v := (-1000000002)) hx hb C.2.2.2.1 hL5 dX11_write_23 ?_
          exact q_iret C hM dX11_write_25 (by rw [qix_in hka1 (by omega)]; dsimp only [Option.elim]; rw [qir_out hir_5]; dsimp only [Option.elim]; exact ⟨rfl, Or.inl ⟨by decide, rfl, rfl, rfl⟩⟩)
    · skip
      have c_5 : 1 = 0 := (nI_eq (a := 1) (b := 0) (by omega) (by omega)).mp c_5
      exact absurd c_5 (by decide)
  · skip
    subst er_1
    refine lv_if_ne (tgt := 11) hx hb dX11_write_5 (by decide) (fun c_5 => ?_) (fun c_5 => ?_)
    · skip
      have c_5 : ¬ (0 = 0) := fun z => c_5 ((nI_eq (a := 0) (b := 0) (by omega) (by omega)).mpr z)
      exact absurd rfl c_5
    · skip
      have c_5 : 0 = 0 := (nI_eq (a := 0) (b := 0) (by omega) (by omega)).mp c_5
      refine lv_ldc (v := (-1000000001)) hx hb C.2.2.2.1 hL6 dX11_write_8 ?_
      exact q_iret C hM dX11_write_10 (by rw [qix_out (by omega) hnoa1]; dsimp only [Option.elim]; exact ⟨rfl, Or.inl ⟨by decide, rfl, rfl, rfl⟩⟩)

set_option maxHeartbeats 4000000 in
set_option maxRecDepth 100000 in
theorem c_X11_giveUp (E : qE) (ad : Nat → Nat) (l : Launch) (S A : qA2) (b : qB) (a1 : Int32) (nP : Nat) (hPo : S 188 4 = nI nP) (hPb : nP ≤ 6) (nc : Nat) (hnc : S 188 30 = nI nc) (hncb : nc ≤ 20) : MI E ad l yX11_giveUp wsX11_giveUp { frames := 2, cells := 0, slots := 0, locals := 46 } [.ref (ad 188), .int a1] S A b (fun r S' A' b' => b = b' ∧ ((¬ (qix a1 nP).elim (-1000000001) (fun k => if A 193 (18 + k) < 0 then (-1000000003) else 0) = 0 ∧ r = (qix a1 nP).elim (-1000000001) (fun k => if A 193 (18 + k) < 0 then (-1000000003) else 0) ∧ S = S' ∧ A = A') ∨ ((qix a1 nP).elim (-1000000001) (fun k => if A 193 (18 + k) < 0 then (-1000000003) else 0) = 0 ∧ ∃ k, k < nP ∧ a1 = nI k ∧ mNoted nc S A S' A' ∧ mKeep S A S' A' ∧ r = A 193 (18 + k) ∧ A' 193 = upd (A 193) (18 + k) (-1)))) := by
  refine MI.of (cc := cX11_giveUp) (maxL := 3) (ret := some .int) RX11 rfl (by decide) rfl ?_
  intro pg e s m below meth cd C hM
  have hx := C.1
  have hb := C.2.1
  have hts := C.2.2.2.2.1
  have hA : ∀ q, s.heap.size ≤ q → qAr ad s.heap.size q := fun _ h => Or.inr h
  have hi11 : ∀ w ∈ u_ws RX11 TX11 45, w ∈ wsX11_giveUp := by decide +kernel
  have hL0 := hts (.fieldLink RX11 22 "CrowFencesModel" "now" "[I") (by decide +kernel)
  have hL1 := hts (.constant RX11 247 (-1000000003)) (by decide +kernel)
  have hL2 := hts (.constant RX11 219 (-1000000001)) (by decide +kernel)
  have hl := lv_entry ([.ref (ad 188), .int a1]) (n := 3) (Nat.le_of_ble_eq_true rfl)
  rw [lg_entry_eq]
  generalize (lg_sl ([.ref (ad 188), .int a1]) ++ List.replicate (3 - (lg_sl ([.ref (ad 188), .int a1])).length) Slot.unset).toArray = ls at hl ⊢
  have hl : lv_has ls 3 [(0, .ref (ad 188)), (1, .int a1)] := hl
  refine lv_aload_n hx hb dX11_giveUp_0 rfl (lv_at hl 0 rfl) ?_
  refine lv_iload_n hx hb dX11_giveUp_1 rfl (lv_at hl 1 rfl) ?_
  refine q_callVI (n := 1) (o := 188) (As := [.int a1]) (rest := []) C hM hA (c_X11_isPost E ad l S A b a1 nP hPo (by omega)) (qmem_11 E ad S A b (show qk 188 = 11 from by decide +kernel)) (by decide) rfl gX11_giveUp_X11_isPost rfl rfl rfl (by decide +kernel) ⟨Nat.le_of_ble_eq_true rfl, Nat.le_of_ble_eq_true rfl⟩ rfl hl.1 rfl (Nat.le_of_ble_eq_true rfl) ⟨Nat.zero_le _, Nat.zero_le _⟩ dX11_giveUp_2 (fun r_1 S_2 A_3 b_4 H locs qr_1 hM => ?_)
  obtain ⟨⟨e1, e2, e3⟩, hDr_1⟩ := qr_1
  subst e1; subst e2; subst e3
  rcases hDr_1 with ⟨er_1, ka1, hka1, eka1⟩ | ⟨er_1, hnoa1⟩
  · skip
    subst er_1
    subst eka1
    refine lv_if_ne (tgt := 11) hx hb dX11_giveUp_5 (by decide) (fun c_5 => ?_) (fun c_5 => ?_)
    · skip
      have c_5 : ¬ (1 = 0) := fun z => c_5 ((nI_eq (a := 1) (b := 0) (by omega) (by omega)).mpr z)
      refine lv_aload_n hx hb dX11_giveUp_11 rfl (lv_at hl 0 rfl) ?_
      refine q_get (o := 188) (ci := 11) (k := 11) (T := TX11) (v := .ref (ad 193)) C hM (qmem_11 E ad S A b (show qk 188 = 11 from by decide +kernel)) (by decide) rfl hi11 (by decide) hL0 rfl rfl dX11_giveUp_12 ?_
      refine lv_bipush (v := 18) hx hb dX11_giveUp_15 (by decide) ?_
      refine lv_iload_n hx hb dX11_giveUp_17 rfl (lv_at hl 1 rfl) ?_
      refine lv_iadd hx hb dX11_giveUp_18 ?_
      refine lv_as (y := nI (18 + ka1)) (nI_add _ _) ?_
      refine q_iald (v := A 193 (18 + ka1)) C hM (show qk 193 = 12 from by decide +kernel) (by rw [(show ql 193 = 37 from by decide +kernel)]; exact vp_nI (by omega) (by omega)) (by rw [nIc (by omega)]) dX11_giveUp_19 ?_
      refine lv_if_ge (tgt := 26) hx hb dX11_giveUp_20 (by decide) (fun c_20 => ?_) (fun c_20 => ?_)
      · skip
        refine lv_aload_n hx hb dX11_giveUp_26 rfl (lv_at hl 0 rfl) ?_
        refine q_callVV (n := 0) (o := 188) (As := []) (rest := []) C hM hA (c_X11_remember E ad l S A b nc hnc (by omega)) (qmem_11 E ad S A b (show qk 188 = 11 from by decide +kernel)) (by decide) rfl gX11_giveUp_X11_remember rfl rfl rfl (by decide +kernel) ⟨Nat.le_of_ble_eq_true rfl, Nat.le_of_ble_eq_true rfl⟩ rfl hl.1 rfl (Nat.le_of_ble_eq_true rfl) ⟨Nat.zero_le _, Nat.zero_le _⟩ dX11_giveUp_27 (fun S_6 A_7 b_8 H locs qr_5 hM => ?_)
        obtain ⟨e3, eS_6, hfA_7, hn1, hn2⟩ := qr_5
        subst e3
        refine lv_aload_n hx hb dX11_giveUp_30 rfl (lv_at hl 0 rfl) ?_
        refine q_get (o := 188) (ci := 11) (k := 11) (T := TX11) (v := .ref (ad 193)) C hM (qmem_11 E ad S_6 A_7 b (show qk 188 = 11 from by decide +kernel)) (by decide) rfl hi11 (by decide) hL0 rfl rfl dX11_giveUp_31 ?_
        refine lv_bipush (v := 18) hx hb dX11_giveUp_34 (by decide) ?_
        refine lv_iload_n hx hb dX11_giveUp_36 rfl (lv_at hl 1 rfl) ?_
        refine lv_iadd hx hb dX11_giveUp_37 ?_
        refine lv_as (y := nI (18 + ka1)) (nI_add _ _) ?_
        refine q_iald (v := A 193 (18 + ka1)) C hM (show qk 193 = 12 from by decide +kernel) (by rw [(show ql 193 = 37 from by decide +kernel)]; exact vp_nI (by omega) (by omega)) (by rw [nIc (by omega)]; exact (show A_7 193 (18 + ka1) = A 193 (18 + ka1) from by rw [hfA_7 193 (by omega)])) dX11_giveUp_38 ?_
        refine lv_istore_n (lv' := [(2, .int (A 193 (18 + ka1))), (0, .ref (ad 188)), (1, .int (nI ka1))]) hx hb dX11_giveUp_39 rfl hl (by decide) rfl (fun ls hl => ?_)
        refine lv_aload_n hx hb dX11_giveUp_40 rfl (lv_at hl 1 rfl) ?_
        refine q_get (o := 188) (ci := 11) (k := 11) (T := TX11) (v := .ref (ad 193)) C hM (qmem_11 E ad S_6 A_7 b (show qk 188 = 11 from by decide +kernel)) (by decide) rfl hi11 (by decide) hL0 rfl rfl dX11_giveUp_41 ?_
        refine lv_bipush (v := 18) hx hb dX11_giveUp_44 (by decide) ?_
        refine lv_iload_n hx hb dX11_giveUp_46 rfl (lv_at hl 2 rfl) ?_
        refine lv_iadd hx hb dX11_giveUp_47 ?_
        refine lv_as (y := nI (18 + ka1)) (nI_add _ _) ?_
        refine lv_iconst (v := (-1)) hx hb dX11_giveUp_48 (by decide) ?_
        refine q_iast C hM (show qk 193 = 12 from by decide +kernel) (by rw [(show ql 193 = 37 from by decide +kernel)]; exact vp_nI (by omega) (by omega)) dX11_giveUp_49 (fun H locs hM => ?_)
        rw [nIc (by omega)] at hM
        obtain ⟨A_9, eA_9⟩ : ∃ zz, zz = q2 A_7 193 (18 + ka1) (-1) := ⟨_, rfl⟩
        rw [← eA_9] at hM
        refine lv_iload_n hx hb dX11_giveUp_50 rfl (lv_at hl 0 rfl) ?_
        exact q_iret C hM dX11_giveUp_51 (by rw [qix_in hka1 (by omega)]; dsimp only [Option.elim]; exact ⟨rfl, Or.inr ⟨by rw [if_neg (Int32.not_lt.mpr c_20)], ka1, hka1, rfl, ⟨(show S_6 188 30 = nI (min (nc + 1) 20) from by rw [eS_6]; exact q2_s _ _ _ _), fun k3 hk3 => by rw [eA_9, q2_or _ _ (by omega)]; exact hn1 k3 hk3, fun j3 hj3 k3 hk3 => by rw [eA_9, q2_or _ _ (by omega)]; exact hn2 j3 hj3 k3 hk3⟩, ⟨fun i h1 h2 => by rw [eA_9, q2_or _ _ (by omega), hfA_7 i (by omega)], fun i j h => by rw [eS_6]; exact q2_ne _ _ h⟩, rfl, by rw [eA_9, q2_row, hfA_7 193 (by omega)]⟩⟩)
      · skip
        refine lv_ldc (v := (-1000000003)) hx hb C.2.2.2.1 hL1 dX11_giveUp_23 ?_
        exact q_iret C hM dX11_giveUp_25 (by rw [qix_in hka1 (by omega)]; dsimp only [Option.elim]; exact ⟨rfl, Or.inl ⟨by rw [if_pos (Int32.not_le.mp c_20)]; decide, by rw [if_pos (Int32.not_le.mp c_20)], rfl, rfl⟩⟩)
    · skip
      have c_5 : 1 = 0 := (nI_eq (a := 1) (b := 0) (by omega) (by omega)).mp c_5
      exact absurd c_5 (by decide)
  · skip
    subst er_1
    refine lv_if_ne (tgt := 11) hx hb dX11_giveUp_5 (by decide) (fun c_5 => ?_) (fun c_5 => ?_)
    · skip
      have c_5 : ¬ (0 = 0) := fun z => c_5 ((nI_eq (a := 0) (b := 0) (by omega) (by omega)).mpr z)
      exact absurd rfl c_5
    · skip
      have c_5 : 0 = 0 := (nI_eq (a := 0) (b := 0) (by omega) (by omega)).mp c_5
      refine lv_ldc (v := (-1000000001)) hx hb C.2.2.2.1 hL2 dX11_giveUp_8 ?_
      exact q_iret C hM dX11_giveUp_10 (by rw [qix_out (by omega) hnoa1]; dsimp only [Option.elim]; exact ⟨rfl, Or.inl ⟨by decide, rfl, rfl, rfl⟩⟩)

set_option maxHeartbeats 4000000 in
set_option maxRecDepth 100000 in
theorem c_X11_move (E : qE) (ad : Nat → Nat) (l : Launch) (S A : qA2) (b : qB) (a1 a2 : Int32) (nC : Nat) (hC : S 188 0 = nI nC) (hCb : nC ≤ 12) (nP : Nat) (hPo : S 188 4 = nI nP) (hPb : nP ≤ 6) (nc : Nat) (hnc : S 188 30 = nI nc) (hncb : nc ≤ 20) : MI E ad l yX11_move wsX11_move { frames := 3, cells := 0, slots := 0, locals := 70 } [.ref (ad 188), .int a1, .int a2] S A b (fun r S' A' b' => b = b' ∧ ((¬ (qix a1 nP).elim (-1000000001) (fun k => if qfree (fun j => A 193 (12 + j)) nC nP (A 193 (12 + k) + (if a2 = 0 then -1 else 1)) = -1 then (-1000000003) else 0) = 0 ∧ r = (qix a1 nP).elim (-1000000001) (fun k => if qfree (fun j => A 193 (12 + j)) nC nP (A 193 (12 + k) + (if a2 = 0 then -1 else 1)) = -1 then (-1000000003) else 0) ∧ S = S' ∧ A = A') ∨ ((qix a1 nP).elim (-1000000001) (fun k => if qfree (fun j => A 193 (12 + j)) nC nP (A 193 (12 + k) + (if a2 = 0 then -1 else 1)) = -1 then (-1000000003) else 0) = 0 ∧ ∃ k, k < nP ∧ a1 = nI k ∧ mNoted nc S A S' A' ∧ mKeep S A S' A' ∧ r = A 193 (12 + k) + (if a2 = 0 then -1 else 1) ∧ A' 193 = upd (A 193) (12 + k) (A 193 (12 + k) + (if a2 = 0 then -1 else 1))))) := by
  refine MI.of (cc := cX11_move) (maxL := 4) (ret := some .int) RX11 rfl (by decide) rfl ?_
  intro pg e s m below meth cd C hM
  have hx := C.1
  have hb := C.2.1
  have hts := C.2.2.2.2.1
  have hA : ∀ q, s.heap.size ≤ q → qAr ad s.heap.size q := fun _ h => Or.inr h
  have hi11 : ∀ w ∈ u_ws RX11 TX11 45, w ∈ wsX11_move := by decide +kernel
  have hL0 := hts (.fieldLink RX11 22 "CrowFencesModel" "now" "[I") (by decide +kernel)
  have hL1 := hts (.constant RX11 247 (-1000000003)) (by decide +kernel)
  have hL2 := hts (.constant RX11 219 (-1000000001)) (by decide +kernel)
  have hl := lv_entry ([.ref (ad 188), .int a1, .int a2]) (n := 4) (Nat.le_of_ble_eq_true rfl)
  rw [lg_entry_eq]
  generalize (lg_sl ([.ref (ad 188), .int a1, .int a2]) ++ List.replicate (4 - (lg_sl ([.ref (ad 188), .int a1, .int a2])).length) Slot.unset).toArray = ls at hl ⊢
  have hl : lv_has ls 4 [(0, .ref (ad 188)), (1, .int a1), (2, .int a2)] := hl
  refine lv_aload_n hx hb dX11_move_0 rfl (lv_at hl 0 rfl) ?_
  refine lv_iload_n hx hb dX11_move_1 rfl (lv_at hl 1 rfl) ?_
  refine q_callVI (n := 1) (o := 188) (As := [.int a1]) (rest := []) C hM hA (c_X11_isPost E ad l S A b a1 nP hPo (by omega)) (qmem_11 E ad S A b (show qk 188 = 11 from by decide +kernel)) (by decide) rfl gX11_move_X11_isPost rfl rfl rfl (by decide +kernel) ⟨Nat.le_of_ble_eq_true rfl, Nat.le_of_ble_eq_true rfl⟩ rfl hl.1 rfl (Nat.le_of_ble_eq_true rfl) ⟨Nat.zero_le _, Nat.zero_le _⟩ dX11_move_2 (fun r_1 S_2 A_3 b_4 H locs qr_1 hM => ?_)
  obtain ⟨⟨e1, e2, e3⟩, hDr_1⟩ := qr_1
  subst e1; subst e2; subst e3
  rcases hDr_1 with ⟨er_1, ka1, hka1, eka1⟩ | ⟨er_1, hnoa1⟩
  · skip
    subst er_1
    subst eka1
    refine lv_if_ne (tgt := 11) hx hb dX11_move_5 (by decide) (fun c_5 => ?_) (fun c_5 => ?_)
    · skip
      have c_5 : ¬ (1 = 0) := fun z => c_5 ((nI_eq (a := 1) (b := 0) (by omega) (by omega)).mpr z)
      refine lv_aload_n hx hb dX11_move_11 rfl (lv_at hl 0 rfl) ?_
      refine q_get (o := 188) (ci := 11) (k := 11) (T := TX11) (v := .ref (ad 193)) C hM (qmem_11 E ad S A b (show qk 188 = 11 from by decide +kernel)) (by decide) rfl hi11 (by decide) hL0 rfl rfl dX11_move_12 ?_
      refine lv_bipush (v := 12) hx hb dX11_move_15 (by decide) ?_
      refine lv_iload_n hx hb dX11_move_17 rfl (lv_at hl 1 rfl) ?_
      refine lv_iadd hx hb dX11_move_18 ?_
      refine lv_as (y := nI (12 + ka1)) (nI_add _ _) ?_
      refine q_iald (v := A 193 (12 + ka1)) C hM (show qk 193 = 12 from by decide +kernel) (by rw [(show ql 193 = 37 from by decide +kernel)]; exact vp_nI (by omega) (by omega)) (by rw [nIc (by omega)]) dX11_move_19 ?_
      refine lv_iload_n hx hb dX11_move_20 rfl (lv_at hl 2 rfl) ?_
      refine lv_if_eq (tgt := 28) hx hb dX11_move_21 (by decide) (fun c_21 => ?_) (fun c_21 => ?_)
      · skip
        refine lv_iconst (v := (-1)) hx hb dX11_move_28 (by decide) ?_
        refine lv_iadd hx hb dX11_move_29 ?_
        refine lv_topi (fun x3_5 ex3_5 => ?_)
        refine lv_istore_n (lv' := [(3, .int x3_5), (0, .ref (ad 188)), (1, .int (nI ka1)), (2, .int a2)]) hx hb dX11_move_30 rfl hl (by decide) rfl (fun ls hl => ?_)
        refine lv_aload_n hx hb dX11_move_31 rfl (lv_at hl 1 rfl) ?_
        refine lv_iload_n hx hb dX11_move_32 rfl (lv_at hl 2 rfl) ?_
        refine lv_iload_n hx hb dX11_move_33 rfl (lv_at hl 0 rfl) ?_
        refine q_callVI (n := 2) (o := 188) (As := [.int (nI ka1), .int x3_5]) (rest := []) C hM hA (c_X11_mayMove E ad l S A b (nI ka1) x3_5 nC hC (by omega) nP hPo (by omega)) (qmem_11 E ad S A b (show qk 188 = 11 from by decide +kernel)) (by decide) rfl gX11_move_X11_mayMove rfl rfl rfl (by decide +kernel) ⟨Nat.le_of_ble_eq_true rfl, Nat.le_of_ble_eq_true rfl⟩ rfl hl.1 rfl (Nat.le_of_ble_eq_true rfl) ⟨Nat.zero_le _, Nat.zero_le _⟩ dX11_move_34 (fun r_6 S_7 A_8 b_9 H locs qr_6 hM => ?_)
        obtain ⟨⟨e1, e2, e3⟩, er_6⟩ := qr_6
        subst e1; subst e2; subst e3
        refine lv_if_ne (tgt := 43) hx hb dX11_move_37 (by decide) (fun c_37 => ?_) (fun c_37 => ?_)
        · skip
          refine lv_aload_n hx hb dX11_move_43 rfl (lv_at hl 1 rfl) ?_
          refine q_callVV (n := 0) (o := 188) (As := []) (rest := []) C hM hA (c_X11_remember E ad l S A b nc hnc (by omega)) (qmem_11 E ad S A b (show qk 188 = 11 from by decide +kernel)) (by decide) rfl gX11_move_X11_remember rfl rfl rfl (by decide +kernel) ⟨Nat.le_of_ble_eq_true rfl, Nat.le_of_ble_eq_true rfl⟩ rfl hl.1 rfl (Nat.le_of_ble_eq_true rfl) ⟨Nat.zero_le _, Nat.zero_le _⟩ dX11_move_44 (fun S_11 A_12 b_13 H locs qr_10 hM => ?_)
          obtain ⟨e3, eS_11, hfA_12, hn1, hn2⟩ := qr_10
          subst e3
          refine lv_aload_n hx hb dX11_move_47 rfl (lv_at hl 1 rfl) ?_
          refine q_get (o := 188) (ci := 11) (k := 11) (T := TX11) (v := .ref (ad 193)) C hM (qmem_11 E ad S_11 A_12 b (show qk 188 = 11 from by decide +kernel)) (by decide) rfl hi11 (by decide) hL0 rfl rfl dX11_move_48 ?_
          refine lv_bipush (v := 12) hx hb dX11_move_51 (by decide) ?_
          refine lv_iload_n hx hb dX11_move_53 rfl (lv_at hl 2 rfl) ?_
          refine lv_iadd hx hb dX11_move_54 ?_
          refine lv_as (y := nI (12 + ka1)) (nI_add _ _) ?_
          refine lv_iload_n hx hb dX11_move_55 rfl (lv_at hl 0 rfl) ?_
          refine q_iast C hM (show qk 193 = 12 from by decide +kernel) (by rw [(show ql 193 = 37 from by decide +kernel)]; exact vp_nI (by omega) (by omega)) dX11_move_56 (fun H locs hM => ?_)
          rw [nIc (by omega)] at hM
          obtain ⟨A_14, eA_14⟩ : ∃ zz, zz = q2 A_12 193 (12 + ka1) x3_5 := ⟨_, rfl⟩
          rw [← eA_14] at hM
          refine lv_iload_n hx hb dX11_move_57 rfl (lv_at hl 0 rfl) ?_
          exact q_iret C hM dX11_move_58 (by rw [qix_in hka1 (by omega)]; dsimp only [Option.elim]; rw [ex3_5] at er_6; rw [if_pos c_21]; exact ⟨rfl, Or.inr ⟨by rw [if_neg (q01_ne0.mp (fun z => c_37 (er_6.trans z)))], ka1, hka1, rfl, ⟨(show S_11 188 30 = nI (min (nc + 1) 20) from by rw [eS_11]; exact q2_s _ _ _ _), fun k3 hk3 => by rw [eA_14, q2_or _ _ (by omega)]; exact hn1 k3 hk3, fun j3 hj3 k3 hk3 => by rw [eA_14, q2_or _ _ (by omega)]; exact hn2 j3 hj3 k3 hk3⟩, ⟨fun i h1 h2 => by rw [eA_14, q2_or _ _ (by omega), hfA_12 i (by omega)], fun i j h => by rw [eS_11]; exact q2_ne _ _ h⟩, ex3_5, by rw [eA_14, q2_row, hfA_12 193 (by omega), ex3_5]⟩⟩)
        · skip
          refine lv_ldc (v := (-1000000003)) hx hb C.2.2.2.1 hL1 dX11_move_40 ?_
          exact q_iret C hM dX11_move_42 (by rw [qix_in hka1 (by omega)]; dsimp only [Option.elim]; rw [ex3_5] at er_6; rw [if_pos c_21]; exact ⟨rfl, Or.inl ⟨by rw [if_pos (Classical.not_not.mp (q01_eq0.mp (er_6.symm.trans c_37)))]; decide, by rw [if_pos (Classical.not_not.mp (q01_eq0.mp (er_6.symm.trans c_37)))], rfl, rfl⟩⟩)
      · skip
        refine lv_iconst (v := 1) hx hb dX11_move_24 (by decide) ?_
        refine lv_goto (tgt := 29) hx hb dX11_move_25 (by decide) ?_
        refine lv_iadd hx hb dX11_move_29 ?_
        refine lv_topi (fun x3_15 ex3_15 => ?_)
        refine lv_istore_n (lv' := [(3, .int x3_15), (0, .ref (ad 188)), (1, .int (nI ka1)), (2, .int a2)]) hx hb dX11_move_30 rfl hl (by decide) rfl (fun ls hl => ?_)
        refine lv_aload_n hx hb dX11_move_31 rfl (lv_at hl 1 rfl) ?_
        refine lv_iload_n hx hb dX11_move_32 rfl (lv_at hl 2 rfl) ?_
        refine lv_iload_n hx hb dX11_move_33 rfl (lv_at hl 0 rfl) ?_
        refine q_callVI (n := 2) (o := 188) (As := [.int (nI ka1), .int x3_15]) (rest := []) C hM hA (c_X11_mayMove E ad l S A b (nI ka1) x3_15 nC hC (by omega) nP hPo (by omega)) (qmem_11 E ad S A b (show qk 188 = 11 from by decide +kernel)) (by decide) rfl gX11_move_X11_mayMove rfl rfl rfl (by decide +kernel) ⟨Nat.le_of_ble_eq_true rfl, Nat.le_of_ble_eq_true rfl⟩ rfl hl.1 rfl (Nat.le_of_ble_eq_true rfl) ⟨Nat.zero_le _, Nat.zero_le _⟩ dX11_move_34 (fun r_16 S_17 A_18 b_19 H locs qr_16 hM => ?_)
        obtain ⟨⟨e1, e2, e3⟩, er_16⟩ := qr_16
        subst e1; subst e2; subst e3
        refine lv_if_ne (tgt := 43) hx hb dX11_move_37 (by decide) (fun c_37 => ?_) (fun c_37 => ?_)
        · skip
          refine lv_aload_n hx hb dX11_move_43 rfl (lv_at hl 1 rfl) ?_
          refine q_callVV (n := 0) (o := 188) (As := []) (rest := []) C hM hA (c_X11_remember E ad l S A b nc hnc (by omega)) (qmem_11 E ad S A b (show qk 188 = 11 from by decide +kernel)) (by decide) rfl gX11_move_X11_remember rfl rfl rfl (by decide +kernel) ⟨Nat.le_of_ble_eq_true rfl, Nat.le_of_ble_eq_true rfl⟩ rfl hl.1 rfl (Nat.le_of_ble_eq_true rfl) ⟨Nat.zero_le _, Nat.zero_le _⟩ dX11_move_44 (fun S_21 A_22 b_23 H locs qr_20 hM => ?_)
          obtain ⟨e3, eS_21, hfA_22, hn1, hn2⟩ := qr_20
          subst e3
          refine lv_aload_n hx hb dX11_move_47 rfl (lv_at hl 1 rfl) ?_
          refine q_get (o := 188) (ci := 11) (k := 11) (T := TX11) (v := .ref (ad 193)) C hM (qmem_11 E ad S_21 A_22 b (show qk 188 = 11 from by decide +kernel)) (by decide) rfl hi11 (by decide) hL0 rfl rfl dX11_move_48 ?_
          refine lv_bipush (v := 12) hx hb dX11_move_51 (by decide) ?_
          refine lv_iload_n hx hb dX11_move_53 rfl (lv_at hl 2 rfl) ?_
          refine lv_iadd hx hb dX11_move_54 ?_
          refine lv_as (y := nI (12 + ka1)) (nI_add _ _) ?_
          refine lv_iload_n hx hb dX11_move_55 rfl (lv_at hl 0 rfl) ?_
          refine q_iast C hM (show qk 193 = 12 from by decide +kernel) (by rw [(show ql 193 = 37 from by decide +kernel)]; exact vp_nI (by omega) (by omega)) dX11_move_56 (fun H locs hM => ?_)
          rw [nIc (by omega)] at hM
          obtain ⟨A_24, eA_24⟩ : ∃ zz, zz = q2 A_22 193 (12 + ka1) x3_15 := ⟨_, rfl⟩
          rw [← eA_24] at hM
          refine lv_iload_n hx hb dX11_move_57 rfl (lv_at hl 0 rfl) ?_
          exact q_iret C hM dX11_move_58 (by rw [qix_in hka1 (by omega)]; dsimp only [Option.elim]; rw [ex3_15] at er_16; rw [if_neg c_21]; exact ⟨rfl, Or.inr ⟨by rw [if_neg (q01_ne0.mp (fun z => c_37 (er_16.trans z)))], ka1, hka1, rfl, ⟨(show S_21 188 30 = nI (min (nc + 1) 20) from by rw [eS_21]; exact q2_s _ _ _ _), fun k3 hk3 => by rw [eA_24, q2_or _ _ (by omega)]; exact hn1 k3 hk3, fun j3 hj3 k3 hk3 => by rw [eA_24, q2_or _ _ (by omega)]; exact hn2 j3 hj3 k3 hk3⟩, ⟨fun i h1 h2 => by rw [eA_24, q2_or _ _ (by omega), hfA_22 i (by omega)], fun i j h => by rw [eS_21]; exact q2_ne _ _ h⟩, ex3_15, by rw [eA_24, q2_row, hfA_22 193 (by omega), ex3_15]⟩⟩)
        · skip
          refine lv_ldc (v := (-1000000003)) hx hb C.2.2.2.1 hL1 dX11_move_40 ?_
          exact q_iret C hM dX11_move_42 (by rw [qix_in hka1 (by omega)]; dsimp only [Option.elim]; rw [ex3_15] at er_16; rw [if_neg c_21]; exact ⟨rfl, Or.inl ⟨by rw [if_pos (Classical.not_not.mp (q01_eq0.mp (er_16.symm.trans c_37)))]; decide, by rw [if_pos (Classical.not_not.mp (q01_eq0.mp (er_16.symm.trans c_37)))], rfl, rfl⟩⟩)
    · skip
      have c_5 : 1 = 0 := (nI_eq (a := 1) (b := 0) (by omega) (by omega)).mp c_5
      exact absurd c_5 (by decide)
  · skip
    subst er_1
    refine lv_if_ne (tgt := 11) hx hb dX11_move_5 (by decide) (fun c_5 => ?_) (fun c_5 => ?_)
    · skip
      have c_5 : ¬ (0 = 0) := fun z => c_5 ((nI_eq (a := 0) (b := 0) (by omega) (by omega)).mpr z)
      exact absurd rfl c_5
    · skip
      have c_5 : 0 = 0 := (nI_eq (a := 0) (b := 0) (by omega) (by omega)).mp c_5
      refine lv_ldc (v := (-1000000001)) hx hb C.2.2.2.1 hL2 dX11_move_8 ?_
      exact q_iret C hM dX11_move_10 (by rw [qix_out (by omega) hnoa1]; dsimp only [Option.elim]; exact ⟨rfl, Or.inl ⟨by decide, rfl, rfl, rfl⟩⟩)

set_option maxHeartbeats 4000000 in
set_option maxRecDepth 100000 in
theorem c_X11_thaw (E : qE) (ad : Nat → Nat) (l : Launch) (S A : qA2) (b : qB) (a1 : Int32) (nC : Nat) (hC : S 188 0 = nI nC) (hCb : nC ≤ 12) (nc : Nat) (hnc : S 188 30 = nI nc) (hncb : nc ≤ 20) : MI E ad l yX11_thaw wsX11_thaw { frames := 1, cells := 0, slots := 0, locals := 25 } [.ref (ad 188), .int a1] S A b (fun r S' A' b' => b = b' ∧ ((¬ (qir a1 1 99).elim (-1000000002) (fun _ => if nC = 0 then (-1000000003) else 0) = 0 ∧ r = (qir a1 1 99).elim (-1000000002) (fun _ => if nC = 0 then (-1000000003) else 0) ∧ S = S' ∧ A = A') ∨ ((qir a1 1 99).elim (-1000000002) (fun _ => if nC = 0 then (-1000000003) else 0) = 0 ∧ ∃ t, (1 ≤ t ∧ t ≤ 99) ∧ a1 = nI t ∧ mNoted nc S A S' A' ∧ mKeep S A S' A' ∧ r = qsum (A' 193) nC ∧ A' 193 = qmap (fun _ x => if nI t < x then x - nI t else 0) (A 193) nC))) := by
  refine MI.of (cc := cX11_thaw) (maxL := 3) (ret := some .int) RX11 rfl (by decide) rfl ?_
  intro pg e s m below meth cd C hM
  have hx := C.1
  have hb := C.2.1
  have hts := C.2.2.2.2.1
  have hA : ∀ q, s.heap.size ≤ q → qAr ad s.heap.size q := fun _ h => Or.inr h
  have hi11 : ∀ w ∈ u_ws RX11 TX11 45, w ∈ wsX11_thaw := by decide +kernel
  have hL0 := hts (.constantLong RX11 264 (99)) (by decide +kernel)
  have hL1 := hts (.fieldLink RX11 90 "CrowFencesModel" "cells" "I") (by decide +kernel)
  have hL2 := hts (.fieldLink RX11 22 "CrowFencesModel" "now" "[I") (by decide +kernel)
  have hL3 := hts (.constant RX11 247 (-1000000003)) (by decide +kernel)
  have hL4 := hts (.constant RX11 105 (-1000000002)) (by decide +kernel)
  have hl := lv_entry ([.ref (ad 188), .int a1]) (n := 3) (Nat.le_of_ble_eq_true rfl)
  rw [lg_entry_eq]
  generalize (lg_sl ([.ref (ad 188), .int a1]) ++ List.replicate (3 - (lg_sl ([.ref (ad 188), .int a1])).length) Slot.unset).toArray = ls at hl ⊢
  have hl : lv_has ls 3 [(0, .ref (ad 188)), (1, .int a1)] := hl
  refine lv_iload_n hx hb dX11_thaw_0 rfl (lv_at hl 1 rfl) ?_
  refine lv_i2l (v := (a1 : Int32).toInt64) hx hb dX11_thaw_1 rfl ?_
  refine lv_lconst (v := 1) hx hb dX11_thaw_2 rfl ?_
  refine lv_ldc2 (v := 99) hx hb C.2.2.2.1 hL0 dX11_thaw_3 ?_
  refine q_callSI (n := 3) (As := [.long ((a1 : Int32).toInt64), .long 1, .long 99]) (rest := []) C hM hA (c_X11_in E ad l S A b ((a1 : Int32).toInt64) 1 99) gX11_thaw_X11_in rfl rfl rfl (by decide +kernel) ⟨Nat.le_of_ble_eq_true rfl, Nat.le_of_ble_eq_true rfl⟩ rfl hl.1 rfl (Nat.le_of_ble_eq_true rfl) ⟨Nat.zero_le _, Nat.zero_le _⟩ dX11_thaw_6 (fun r_1 S_2 A_3 b_4 H locs qr_1 hM => ?_)
  obtain ⟨⟨e1, e2, e3⟩, er_1⟩ := qr_1
  subst e1; subst e2; subst e3
  rw [q64 (x := a1) (lo := 1) (hi := 99) (by first | rfl | decide) (by first | rfl | decide)] at er_1
  rcases q01_cases (1 ≤ a1 ∧ a1 ≤ 99) with ⟨hzr_1, hir_1⟩ | ⟨hzr_1, hir_1⟩
  · skip
    rw [hzr_1] at er_1
    subst er_1
    obtain ⟨ka1, hloka1, hhika1, eka1⟩ := qin_of (l := 1) (h := 99) rfl rfl (by omega) (by omega) hir_1
    subst eka1
    refine lv_if_ne (tgt := 15) hx hb dX11_thaw_9 (by decide) (fun c_9 => ?_) (fun c_9 => ?_)
    · skip
      have c_9 : ¬ (1 = 0) := fun z => c_9 ((nI_eq (a := 1) (b := 0) (by omega) (by omega)).mpr z)
      refine lv_aload_n hx hb dX11_thaw_15 rfl (lv_at hl 0 rfl) ?_
      refine q_get (o := 188) (ci := 11) (k := 0) (T := TX11) (v := .int (S 188 0)) C hM (qmem_11 E ad S A b (show qk 188 = 11 from by decide +kernel)) (by decide) rfl hi11 (by decide) hL1 rfl rfl dX11_thaw_16 ?_
      refine lv_as (y := nI nC) hC ?_
      refine lv_if_ne (tgt := 25) hx hb dX11_thaw_19 (by decide) (fun c_19 => ?_) (fun c_19 => ?_)
      · skip
        have c_19 : ¬ (nC = 0) := fun z => c_19 ((nI_eq (a := nC) (b := 0) (by omega) (by omega)).mpr z)
        refine lv_aload_n hx hb dX11_thaw_25 rfl (lv_at hl 0 rfl) ?_
        refine q_callVV (n := 0) (o := 188) (As := []) (rest := []) C hM hA (c_X11_remember E ad l S A b nc hnc (by omega)) (qmem_11 E ad S A b (show qk 188 = 11 from by decide +kernel)) (by decide) rfl gX11_thaw_X11_remember rfl rfl rfl (by decide +kernel) ⟨Nat.le_of_ble_eq_true rfl, Nat.le_of_ble_eq_true rfl⟩ rfl hl.1 rfl (Nat.le_of_ble_eq_true rfl) ⟨Nat.zero_le _, Nat.zero_le _⟩ dX11_thaw_26 (fun S_6 A_7 b_8 H locs qr_5 hM => ?_)
        obtain ⟨e3, eS_6, hfA_7, hn1, hn2⟩ := qr_5
        subst e3
        refine lv_iconst (v := 0) hx hb dX11_thaw_29 (by decide) ?_
        refine lv_istore_n (lv' := [(2, .int 0), (0, .ref (ad 188)), (1, .int (nI ka1))]) hx hb dX11_thaw_30 rfl hl (by decide) rfl (fun ls hl => ?_)
        have loop31 : ∀ (fu : Nat) (k : Nat) (A31 : qA2) (hk : k ≤ nC) (hr : A31 193 = qmap (fun _ x => if nI ka1 < x then x - nI ka1 else 0) (A_7 193) k) (hf : ∀ i, i ≠ 193 → A31 i = A_7 i), nC - k < fu → ∀ (H : Heap) (locs : List Loc) (ls : Array Slot), qM E ad S_6 A31 b (qAr ad s.heap.size) s H locs → lv_has ls 3 [(2, .int (nI k)), (0, .ref (ad 188)), (1, .int (nI ka1))] → W pg l e (headSpec wsX11_thaw { frames := 1, cells := 0, slots := 0, locals := 25 }).room s m ([.ref (ad 188), .int (nI ka1)] : List Value).toArray below meth cd H locs 0 0 (MQ below (qQi E ad s.heap.size (fun r S' A' b' => b = b' ∧ ((¬ (qir (nI ka1) 1 99).elim (-1000000002) (fun _ => if nC = 0 then (-1000000003) else 0) = 0 ∧ r = (qir (nI ka1) 1 99).elim (-1000000002) (fun _ => if nC = 0 then (-1000000003) else 0) ∧ S = S' ∧ A = A') ∨ ((qir (nI ka1) 1 99).elim (-1000000002) (fun _ => if nC = 0 then (-1000000003) else 0) = 0 ∧ ∃ t, (1 ≤ t ∧ t ≤ 99) ∧ (nI ka1) = nI t ∧ mNoted nc S A S' A' ∧ mKeep S A S' A' ∧ r = qsum (A' 193) nC ∧ A' 193 = qmap (fun _ x => if nI t < x then x - nI t else 0) (A 193) nC)))) ([.ref (ad 188), .int (nI ka1)] : List Value).toArray s 0 0 (qAr ad s.heap.size)) (F0 m 31 ls []) := by
          intro fu
          induction fu with
          | zero => intro k A31 hk hr hf hn; exact absurd hn (Nat.not_lt_zero _)
          | succ fu ih31 =>
            intro k A31 hk hr hf hn H locs ls hM hl
            refine lv_iload_n hx hb dX11_thaw_31 rfl (lv_at hl 0 rfl) ?_
            refine lv_aload_n hx hb dX11_thaw_32 rfl (lv_at hl 1 rfl) ?_
            refine q_get (o := 188) (ci := 11) (k := 0) (T := TX11) (v := .int (S 188 0)) C hM (qmem_11 E ad S_6 A31 b (show qk 188 = 11 from by decide +kernel)) (by decide) rfl hi11 (by decide) hL1 rfl (congrArg (fun z => some (Value.int z)) (show S_6 188 0 = S 188 0 from by rw [eS_6, q2_k _ _ (by omega)])) dX11_thaw_33 ?_
            refine lv_as (y := nI nC) hC ?_
            refine lv_icmp_ge (tgt := 73) hx hb dX11_thaw_36 (by decide) (fun c_36 => ?_) (fun c_36 => ?_)
            · skip
              have c_36 : nC ≤ k := (nI_leI (a := nC) (b := k) (by omega) (by omega)).mp c_36
              refine lv_aload_n hx hb dX11_thaw_73 rfl (lv_at hl 1 rfl) ?_
              refine q_callVI (n := 0) (o := 188) (As := []) (rest := []) C hM hA (c_X11_allSnow E ad l S_6 A31 b nC ((show S_6 188 0 = S 188 0 from by rw [eS_6, q2_k _ _ (by omega)]).trans hC) (by omega)) (qmem_11 E ad S_6 A31 b (show qk 188 = 11 from by decide +kernel)) (by decide) rfl gX11_thaw_X11_allSnow rfl rfl rfl (by decide +kernel) ⟨Nat.le_of_ble_eq_true rfl, Nat.le_of_ble_eq_true rfl⟩ rfl hl.1 rfl (Nat.le_of_ble_eq_true rfl) ⟨Nat.zero_le _, Nat.zero_le _⟩ dX11_thaw_74 (fun r_9 S_10 A_11 b_12 H locs qr_9 hM => ?_)
              obtain ⟨⟨e1, e2, e3⟩, er_9⟩ := qr_9
              subst e1; subst e2; subst e3
              exact q_iret C hM dX11_thaw_77 (by rw [qir_in hloka1 hhika1 (by omega)]; dsimp only [Option.elim]; exact ⟨rfl, Or.inr ⟨by rw [if_neg c_19], ka1, ⟨hloka1, hhika1⟩, rfl, ⟨(show S_6 188 30 = nI (min (nc + 1) 20) from by rw [eS_6]; exact q2_s _ _ _ _), fun k3 hk3 => by rw [hf 202 (by omega)]; exact hn1 k3 hk3, fun j3 hj3 k3 hk3 => by rw [hf 202 (by omega)]; exact hn2 j3 hj3 k3 hk3⟩, ⟨fun i h1 h2 => by rw [hf i (by omega), hfA_7 i (by omega)], fun i j h => by rw [eS_6]; exact q2_ne _ _ h⟩, er_9, by rw [hr, show k = nC by omega, hfA_7 193 (by omega)]⟩⟩)
            · skip
              have c_36 : ¬ (nC ≤ k) := fun z => c_36 ((nI_leI (a := nC) (b := k) (by omega) (by omega)).mpr z)
              refine lv_aload_n hx hb dX11_thaw_39 rfl (lv_at hl 1 rfl) ?_
              refine q_get (o := 188) (ci := 11) (k := 11) (T := TX11) (v := .ref (ad 193)) C hM (qmem_11 E ad S_6 A31 b (show qk 188 = 11 from by decide +kernel)) (by decide) rfl hi11 (by decide) hL2 rfl rfl dX11_thaw_40 ?_
              refine lv_iload_n hx hb dX11_thaw_43 rfl (lv_at hl 0 rfl) ?_
              refine lv_aload_n hx hb dX11_thaw_44 rfl (lv_at hl 1 rfl) ?_
              refine q_get (o := 188) (ci := 11) (k := 11) (T := TX11) (v := .ref (ad 193)) C hM (qmem_11 E ad S_6 A31 b (show qk 188 = 11 from by decide +kernel)) (by decide) rfl hi11 (by decide) hL2 rfl rfl dX11_thaw_45 ?_
              refine lv_iload_n hx hb dX11_thaw_48 rfl (lv_at hl 0 rfl) ?_
              refine q_iald (v := A31 193 k) C hM (show qk 193 = 12 from by decide +kernel) (by rw [(show ql 193 = 37 from by decide +kernel)]; exact vp_nI (by omega) (by omega)) (by rw [nIc (by omega)]) dX11_thaw_49 ?_
              refine lv_iload_n hx hb dX11_thaw_50 rfl (lv_at hl 2 rfl) ?_
              refine lv_icmp_le (tgt := 65) hx hb dX11_thaw_51 (by decide) (fun c_51 => ?_) (fun c_51 => ?_)
              · skip
                refine lv_iconst (v := 0) hx hb dX11_thaw_65 (by decide) ?_
                refine q_iast C hM (show qk 193 = 12 from by decide +kernel) (by rw [(show ql 193 = 37 from by decide +kernel)]; exact vp_nI (by omega) (by omega)) dX11_thaw_66 (fun H locs hM => ?_)
                rw [nIc (by omega)] at hM
                obtain ⟨A_13, eA_13⟩ : ∃ zz, zz = q2 A31 193 k 0 := ⟨_, rfl⟩
                rw [← eA_13] at hM
                refine lv_iinc (v := nI (k + 1)) (lv' := [(2, .int (nI (k + 1))), (0, .ref (ad 188)), (1, .int (nI ka1))]) hx hb dX11_thaw_67 hl (k := 0) rfl (by rw [nI_succ]; rfl) (by decide) rfl (fun ls hl => ?_)
                refine lv_goto (tgt := 31) hx hb dX11_thaw_70 (by decide) ?_
                exact ih31 (k + 1) A_13 (by omega) (by rw [eA_13, q2_row, hr]; exact qmap_s _ _ _ _ (by rw [hr, qmap_at] at c_51; rw [if_neg (Int32.not_lt.mpr c_51)])) (by rw [eA_13]; exact qfr_up hf) (by omega) _ _ _ hM hl
              · skip
                refine lv_aload_n hx hb dX11_thaw_54 rfl (lv_at hl 1 rfl) ?_
                refine q_get (o := 188) (ci := 11) (k := 11) (T := TX11) (v := .ref (ad 193)) C hM (qmem_11 E ad S_6 A31 b (show qk 188 = 11 from by decide +kernel)) (by decide) rfl hi11 (by decide) hL2 rfl rfl dX11_thaw_55 ?_
                refine lv_iload_n hx hb dX11_thaw_58 rfl (lv_at hl 0 rfl) ?_
                refine q_iald (v := A31 193 k) C hM (show qk 193 = 12 from by decide +kernel) (by rw [(show ql 193 = 37 from by decide +kernel)]; exact vp_nI (by omega) (by omega)) (by rw [nIc (by omega)]) dX11_thaw_59 ?_
                refine lv_iload_n hx hb dX11_thaw_60 rfl (lv_at hl 2 rfl) ?_
                refine lv_isub hx hb dX11_thaw_61 ?_
                refine lv_goto (tgt := 66) hx hb dX11_thaw_62 (by decide) ?_
                refine lv_topi (fun v_14 ev_14 => ?_)
                refine q_iast C hM (show qk 193 = 12 from by decide +kernel) (by rw [(show ql 193 = 37 from by decide +kernel)]; exact vp_nI (by omega) (by omega)) dX11_thaw_66 (fun H locs hM => ?_)
                rw [nIc (by omega)] at hM
                obtain ⟨A_15, eA_15⟩ : ∃ zz, zz = q2 A31 193 k v_14 := ⟨_, rfl⟩
                rw [← eA_15] at hM
                refine lv_iinc (v := nI (k + 1)) (lv' := [(2, .int (nI (k + 1))), (0, .ref (ad 188)), (1, .int (nI ka1))]) hx hb dX11_thaw_67 hl (k := 0) rfl (by rw [nI_succ]; rfl) (by decide) rfl (fun ls hl => ?_)
                refine lv_goto (tgt := 31) hx hb dX11_thaw_70 (by decide) ?_
                exact ih31 (k + 1) A_15 (by omega) (by rw [eA_15, q2_row, hr]; exact qmap_s _ _ _ _ (by rw [hr, qmap_at] at c_51; rw [if_pos (Int32.not_le.mp c_51), ev_14, hr, qmap_at])) (by rw [eA_15]; exact qfr_up hf) (by omega) _ _ _ hM hl
        exact loop31 (nC - 0 + 1) 0 A_7 (by omega) ((qmap_0 _ _).symm) (fun _ _ => rfl) (Nat.lt_succ_self _) _ _ _ hM hl
      · skip
        have c_19 : nC = 0 := (nI_eq (a := nC) (b := 0) (by omega) (by omega)).mp c_19
        refine lv_ldc (v := (-1000000003)) hx hb C.2.2.2.1 hL3 dX11_thaw_22 ?_
        exact q_iret C hM dX11_thaw_24 (by rw [qir_in hloka1 hhika1 (by omega)]; dsimp only [Option.elim]; exact ⟨rfl, Or.inl ⟨by rw [if_pos c_19]; decide, by rw [if_pos c_19], rfl, rfl⟩⟩)
    · skip
      have c_9 : 1 = 0 := (nI_eq (a := 1) (b := 0) (by omega) (by omega)).mp c_9
      exact absurd c_9 (by decide)
  · skip
    rw [hzr_1] at er_1
    subst er_1
    refine lv_if_ne (tgt := 15) hx hb dX11_thaw_9 (by decide) (fun c_9 => ?_) (fun c_9 => ?_)
    · skip
      have c_9 : ¬ (0 = 0) := fun z => c_9 ((nI_eq (a := 0) (b := 0) (by omega) (by omega)).mpr z)
      exact absurd rfl c_9
    · skip
      have c_9 : 0 = 0 := (nI_eq (a := 0) (b := 0) (by omega) (by omega)).mp c_9
      refine lv_ldc (v := (-1000000002)) hx hb C.2.2.2.1 hL4 dX11_thaw_12 ?_
      exact q_iret C hM dX11_thaw_14 (by rw [qir_out hir_1]; dsimp only [Option.elim]; exact ⟨rfl, Or.inl ⟨by decide, rfl, rfl, rfl⟩⟩)

set_option maxHeartbeats 4000000 in
set_option maxRecDepth 100000 in
theorem c_X11_shout (E : qE) (ad : Nat → Nat) (l : Launch) (S A : qA2) (b : qB) (a1 : Int32) (nK : Nat) (hK : S 188 6 = nI nK) (hKb : nK ≤ 5) (nc : Nat) (hnc : S 188 30 = nI nc) (hncb : nc ≤ 20) : MI E ad l yX11_shout wsX11_shout { frames := 2, cells := 0, slots := 0, locals := 46 } [.ref (ad 188), .int a1] S A b (fun r S' A' b' => b = b' ∧ ((¬ (qix a1 nK).elim (-1000000001) (fun _ => 0) = 0 ∧ r = (qix a1 nK).elim (-1000000001) (fun _ => 0) ∧ S = S' ∧ A = A') ∨ ((qix a1 nK).elim (-1000000001) (fun _ => 0) = 0 ∧ ∃ k, k < nK ∧ a1 = nI k ∧ mNoted nc S A S' A' ∧ mKeep S A S' A' ∧ r = A 193 (25 + k) - (if 0 < A 193 (25 + k) then 1 else 0) ∧ A' 193 = upd (A 193) (25 + k) (A 193 (25 + k) - (if 0 < A 193 (25 + k) then 1 else 0))))) := by
  refine MI.of (cc := cX11_shout) (maxL := 2) (ret := some .int) RX11 rfl (by decide) rfl ?_
  intro pg e s m below meth cd C hM
  have hx := C.1
  have hb := C.2.1
  have hts := C.2.2.2.2.1
  have hA : ∀ q, s.heap.size ≤ q → qAr ad s.heap.size q := fun _ h => Or.inr h
  have hi11 : ∀ w ∈ u_ws RX11 TX11 45, w ∈ wsX11_shout := by decide +kernel
  have hL0 := hts (.fieldLink RX11 22 "CrowFencesModel" "now" "[I") (by decide +kernel)
  have hL1 := hts (.constant RX11 219 (-1000000001)) (by decide +kernel)
  have hl := lv_entry ([.ref (ad 188), .int a1]) (n := 2) (Nat.le_of_ble_eq_true rfl)
  rw [lg_entry_eq]
  generalize (lg_sl ([.ref (ad 188), .int a1]) ++ List.replicate (2 - (lg_sl ([.ref (ad 188), .int a1])).length) Slot.unset).toArray = ls at hl ⊢
  have hl : lv_has ls 2 [(0, .ref (ad 188)), (1, .int a1)] := hl
  refine lv_aload_n hx hb dX11_shout_0 rfl (lv_at hl 0 rfl) ?_
  refine lv_iload_n hx hb dX11_shout_1 rfl (lv_at hl 1 rfl) ?_
  refine q_callVI (n := 1) (o := 188) (As := [.int a1]) (rest := []) C hM hA (c_X11_isCrow E ad l S A b a1 nK hK (by omega)) (qmem_11 E ad S A b (show qk 188 = 11 from by decide +kernel)) (by decide) rfl gX11_shout_X11_isCrow rfl rfl rfl (by decide +kernel) ⟨Nat.le_of_ble_eq_true rfl, Nat.le_of_ble_eq_true rfl⟩ rfl hl.1 rfl (Nat.le_of_ble_eq_true rfl) ⟨Nat.zero_le _, Nat.zero_le _⟩ dX11_shout_2 (fun r_1 S_2 A_3 b_4 H locs qr_1 hM => ?_)
  obtain ⟨⟨e1, e2, e3⟩, hDr_1⟩ := qr_1
  subst e1; subst e2; subst e3
  rcases hDr_1 with ⟨er_1, ka1, hka1, eka1⟩ | ⟨er_1, hnoa1⟩
  · skip
    subst er_1
    subst eka1
    refine lv_if_ne (tgt := 11) hx hb dX11_shout_5 (by decide) (fun c_5 => ?_) (fun c_5 => ?_)
    · skip
      have c_5 : ¬ (1 = 0) := fun z => c_5 ((nI_eq (a := 1) (b := 0) (by omega) (by omega)).mpr z)
      refine lv_aload_n hx hb dX11_shout_11 rfl (lv_at hl 0 rfl) ?_
      refine q_callVV (n := 0) (o := 188) (As := []) (rest := []) C hM hA (c_X11_remember E ad l S A b nc hnc (by omega)) (qmem_11 E ad S A b (show qk 188 = 11 from by decide +kernel)) (by decide) rfl gX11_shout_X11_remember rfl rfl rfl (by decide +kernel) ⟨Nat.le_of_ble_eq_true rfl, Nat.le_of_ble_eq_true rfl⟩ rfl hl.1 rfl (Nat.le_of_ble_eq_true rfl) ⟨Nat.zero_le _, Nat.zero_le _⟩ dX11_shout_12 (fun S_6 A_7 b_8 H locs qr_5 hM => ?_)
      obtain ⟨e3, eS_6, hfA_7, hn1, hn2⟩ := qr_5
      subst e3
      refine lv_aload_n hx hb dX11_shout_15 rfl (lv_at hl 0 rfl) ?_
      refine q_get (o := 188) (ci := 11) (k := 11) (T := TX11) (v := .ref (ad 193)) C hM (qmem_11 E ad S_6 A_7 b (show qk 188 = 11 from by decide +kernel)) (by decide) rfl hi11 (by decide) hL0 rfl rfl dX11_shout_16 ?_
      refine lv_bipush (v := 25) hx hb dX11_shout_19 (by decide) ?_
      refine lv_iload_n hx hb dX11_shout_21 rfl (lv_at hl 1 rfl) ?_
      refine lv_iadd hx hb dX11_shout_22 ?_
      refine lv_as (y := nI (25 + ka1)) (nI_add _ _) ?_
      refine lv_dup2_11 hx hb dX11_shout_23 rfl rfl ?_
      refine q_iald (v := A 193 (25 + ka1)) C hM (show qk 193 = 12 from by decide +kernel) (by rw [(show ql 193 = 37 from by decide +kernel)]; exact vp_nI (by omega) (by omega)) (by rw [nIc (by omega)]; exact (show A_7 193 (25 + ka1) = A 193 (25 + ka1) from by rw [hfA_7 193 (by omega)])) dX11_shout_24 ?_
      refine lv_aload_n hx hb dX11_shout_25 rfl (lv_at hl 0 rfl) ?_
      refine q_get (o := 188) (ci := 11) (k := 11) (T := TX11) (v := .ref (ad 193)) C hM (qmem_11 E ad S_6 A_7 b (show qk 188 = 11 from by decide +kernel)) (by decide) rfl hi11 (by decide) hL0 rfl rfl dX11_shout_26 ?_
      refine lv_bipush (v := 25) hx hb dX11_shout_29 (by decide) ?_
      refine lv_iload_n hx hb dX11_shout_31 rfl (lv_at hl 1 rfl) ?_
      refine lv_iadd hx hb dX11_shout_32 ?_
      refine lv_as (y := nI (25 + ka1)) (nI_add _ _) ?_
      refine q_iald (v := A 193 (25 + ka1)) C hM (show qk 193 = 12 from by decide +kernel) (by rw [(show ql 193 = 37 from by decide +kernel)]; exact vp_nI (by omega) (by omega)) (by rw [nIc (by omega)]; exact (show A_7 193 (25 + ka1) = A 193 (25 + ka1) from by rw [hfA_7 193 (by omega)])) dX11_shout_33 ?_
      refine lv_if_le (tgt := 41) hx hb dX11_shout_34 (by decide) (fun c_34 => ?_) (fun c_34 => ?_)
      · skip
        refine lv_iconst (v := 0) hx hb dX11_shout_41 (by decide) ?_
        refine lv_isub hx hb dX11_shout_42 ?_
        refine lv_topi (fun v_9 ev_9 => ?_)
        refine q_iast C hM (show qk 193 = 12 from by decide +kernel) (by rw [(show ql 193 = 37 from by decide +kernel)]; exact vp_nI (by omega) (by omega)) dX11_shout_43 (fun H locs hM => ?_)
        rw [nIc (by omega)] at hM
        obtain ⟨A_10, eA_10⟩ : ∃ zz, zz = q2 A_7 193 (25 + ka1) v_9 := ⟨_, rfl⟩
        rw [← eA_10] at hM
        refine lv_aload_n hx hb dX11_shout_44 rfl (lv_at hl 0 rfl) ?_
        refine q_get (o := 188) (ci := 11) (k := 11) (T := TX11) (v := .ref (ad 193)) C hM (qmem_11 E ad S_6 A_10 b (show qk 188 = 11 from by decide +kernel)) (by decide) rfl hi11 (by decide) hL0 rfl rfl dX11_shout_45 ?_
        refine lv_bipush (v := 25) hx hb dX11_shout_48 (by decide) ?_
        refine lv_iload_n hx hb dX11_shout_50 rfl (lv_at hl 1 rfl) ?_
        refine lv_iadd hx hb dX11_shout_51 ?_
        refine lv_as (y := nI (25 + ka1)) (nI_add _ _) ?_
        refine q_iald (v := v_9) C hM (show qk 193 = 12 from by decide +kernel) (by rw [(show ql 193 = 37 from by decide +kernel)]; exact vp_nI (by omega) (by omega)) (by rw [nIc (by omega)]; exact (show A_10 193 (25 + ka1) = v_9 from by rw [eA_10]; exact q2_s _ _ _ _)) dX11_shout_52 ?_
        exact q_iret C hM dX11_shout_53 (by rw [qix_in hka1 (by omega)]; dsimp only [Option.elim]; exact ⟨rfl, Or.inr ⟨rfl, ka1, hka1, rfl, ⟨(show S_6 188 30 = nI (min (nc + 1) 20) from by rw [eS_6]; exact q2_s _ _ _ _), fun k3 hk3 => by rw [eA_10, q2_or _ _ (by omega)]; exact hn1 k3 hk3, fun j3 hj3 k3 hk3 => by rw [eA_10, q2_or _ _ (by omega)]; exact hn2 j3 hj3 k3 hk3⟩, ⟨fun i h1 h2 => by rw [eA_10, q2_or _ _ (by omega), hfA_7 i (by omega)], fun i j h => by rw [eS_6]; exact q2_ne _ _ h⟩, by rw [if_neg (Int32.not_lt.mpr c_34)]; exact ev_9, by rw [eA_10, q2_row, hfA_7 193 (by omega), ev_9, if_neg (Int32.not_lt.mpr c_34)]⟩⟩)
      · skip
        refine lv_iconst (v := 1) hx hb dX11_shout_37 (by decide) ?_
        refine lv_goto (tgt := 42) hx hb dX11_shout_38 (by decide) ?_
        refine lv_isub hx hb dX11_shout_42 ?_
        refine lv_topi (fun v_11 ev_11 => ?_)
        refine q_iast C hM (show qk 193 = 12 from by decide +kernel) (by rw [(show ql 193 = 37 from by decide +kernel)]; exact vp_nI (by omega) (by omega)) dX11_shout_43 (fun H locs hM => ?_)
        rw [nIc (by omega)] at hM
        obtain ⟨A_12, eA_12⟩ : ∃ zz, zz = q2 A_7 193 (25 + ka1) v_11 := ⟨_, rfl⟩
        rw [← eA_12] at hM
        refine lv_aload_n hx hb dX11_shout_44 rfl (lv_at hl 0 rfl) ?_
        refine q_get (o := 188) (ci := 11) (k := 11) (T := TX11) (v := .ref (ad 193)) C hM (qmem_11 E ad S_6 A_12 b (show qk 188 = 11 from by decide +kernel)) (by decide) rfl hi11 (by decide) hL0 rfl rfl dX11_shout_45 ?_
        refine lv_bipush (v := 25) hx hb dX11_shout_48 (by decide) ?_
        refine lv_iload_n hx hb dX11_shout_50 rfl (lv_at hl 1 rfl) ?_
        refine lv_iadd hx hb dX11_shout_51 ?_
        refine lv_as (y := nI (25 + ka1)) (nI_add _ _) ?_
        refine q_iald (v := v_11) C hM (show qk 193 = 12 from by decide +kernel) (by rw [(show ql 193 = 37 from by decide +kernel)]; exact vp_nI (by omega) (by omega)) (by rw [nIc (by omega)]; exact (show A_12 193 (25 + ka1) = v_11 from by rw [eA_12]; exact q2_s _ _ _ _)) dX11_shout_52 ?_
        exact q_iret C hM dX11_shout_53 (by rw [qix_in hka1 (by omega)]; dsimp only [Option.elim]; exact ⟨rfl, Or.inr ⟨rfl, ka1, hka1, rfl, ⟨(show S_6 188 30 = nI (min (nc + 1) 20) from by rw [eS_6]; exact q2_s _ _ _ _), fun k3 hk3 => by rw [eA_12, q2_or _ _ (by omega)]; exact hn1 k3 hk3, fun j3 hj3 k3 hk3 => by rw [eA_12, q2_or _ _ (by omega)]; exact hn2 j3 hj3 k3 hk3⟩, ⟨fun i h1 h2 => by rw [eA_12, q2_or _ _ (by omega), hfA_7 i (by omega)], fun i j h => by rw [eS_6]; exact q2_ne _ _ h⟩, by rw [if_pos (Int32.not_le.mp c_34)]; exact ev_11, by rw [eA_12, q2_row, hfA_7 193 (by omega), ev_11, if_pos (Int32.not_le.mp c_34)]⟩⟩)
    · skip
      have c_5 : 1 = 0 := (nI_eq (a := 1) (b := 0) (by omega) (by omega)).mp c_5
      exact absurd c_5 (by decide)
  · skip
    subst er_1
    refine lv_if_ne (tgt := 11) hx hb dX11_shout_5 (by decide) (fun c_5 => ?_) (fun c_5 => ?_)
    · skip
      have c_5 : ¬ (0 = 0) := fun z => c_5 ((nI_eq (a := 0) (b := 0) (by omega) (by omega)).mpr z)
      exact absurd rfl c_5
    · skip
      have c_5 : 0 = 0 := (nI_eq (a := 0) (b := 0) (by omega) (by omega)).mp c_5
      refine lv_ldc (v := (-1000000001)) hx hb C.2.2.2.1 hL1 dX11_shout_8 ?_
      exact q_iret C hM dX11_shout_10 (by rw [qix_out (by omega) hnoa1]; dsimp only [Option.elim]; exact ⟨rfl, Or.inl ⟨by decide, rfl, rfl, rfl⟩⟩)

set_option maxHeartbeats 4000000 in
set_option maxRecDepth 100000 in
theorem c_X11_let (E : qE) (ad : Nat → Nat) (l : Launch) (S A : qA2) (b : qB) (a1 a2 : Int32) (nP : Nat) (hPo : S 188 4 = nI nP) (hPb : nP ≤ 6) (nK : Nat) (hK : S 188 6 = nI nK) (hKb : nK ≤ 5) (nc : Nat) (hnc : S 188 30 = nI nc) (hncb : nc ≤ 20) : MI E ad l yX11_let wsX11_let { frames := 2, cells := 0, slots := 0, locals := 46 } [.ref (ad 188), .int a1, .int a2] S A b (fun r S' A' b' => b = b' ∧ ((¬ (qix a1 nP).elim (-1000000001) (fun k => (qix a2 nK).elim (-1000000001) (fun c => if A 193 (18 + k) < 0 ∧ mpost (A 193) (nI c) nP < 0 then 0 else (-1000000003))) = 0 ∧ r = (qix a1 nP).elim (-1000000001) (fun k => (qix a2 nK).elim (-1000000001) (fun c => if A 193 (18 + k) < 0 ∧ mpost (A 193) (nI c) nP < 0 then 0 else (-1000000003))) ∧ S = S' ∧ A = A') ∨ ((qix a1 nP).elim (-1000000001) (fun k => (qix a2 nK).elim (-1000000001) (fun c => if A 193 (18 + k) < 0 ∧ mpost (A 193) (nI c) nP < 0 then 0 else (-1000000003))) = 0 ∧ ∃ k c, k < nP ∧ c < nK ∧ a1 = nI k ∧ a2 = nI c ∧ mNoted nc S A S' A' ∧ mKeep S A S' A' ∧ r = (A 193 (25 + c) + A 190 c * A 189 k) ∧ A' 193 = upd (upd (upd (upd (A 193) (18 + k) (nI c)) 24 (A 193 24 ||| qbit k)) (30 + c) (qmin6 (A 193 (30 + c) + (A 193 (25 + c) + A 190 c * A 189 k)))) 36 (qmin6 (A 193 36 + (A 193 (25 + c) + A 190 c * A 189 k)))))) := by
  refine MI.of (cc := cX11_let) (maxL := 4) (ret := some .int) RX11 rfl (by decide) rfl ?_
  intro pg e s m below meth cd C hM
  have hx := C.1
  have hb := C.2.1
  have hts := C.2.2.2.2.1
  have hA : ∀ q, s.heap.size ≤ q → qAr ad s.heap.size q := fun _ h => Or.inr h
  have hi11 : ∀ w ∈ u_ws RX11 TX11 45, w ∈ wsX11_let := by decide +kernel
  have hL0 := hts (.fieldLink RX11 22 "CrowFencesModel" "now" "[I") (by decide +kernel)
  have hL1 := hts (.constant RX11 247 (-1000000003)) (by decide +kernel)
  have hL2 := hts (.constant RX11 260 (999999)) (by decide +kernel)
  have hL3 := hts (.constant RX11 219 (-1000000001)) (by decide +kernel)
  have hl := lv_entry ([.ref (ad 188), .int a1, .int a2]) (n := 4) (Nat.le_of_ble_eq_true rfl)
  rw [lg_entry_eq]
  generalize (lg_sl ([.ref (ad 188), .int a1, .int a2]) ++ List.replicate (4 - (lg_sl ([.ref (ad 188), .int a1, .int a2])).length) Slot.unset).toArray = ls at hl ⊢
  have hl : lv_has ls 4 [(0, .ref (ad 188)), (1, .int a1), (2, .int a2)] := hl
  refine lv_aload_n hx hb dX11_let_0 rfl (lv_at hl 0 rfl) ?_
  refine lv_iload_n hx hb dX11_let_1 rfl (lv_at hl 1 rfl) ?_
  refine q_callVI (n := 1) (o := 188) (As := [.int a1]) (rest := []) C hM hA (c_X11_isPost E ad l S A b a1 nP hPo (by omega)) (qmem_11 E ad S A b (show qk 188 = 11 from by decide +kernel)) (by decide) rfl gX11_let_X11_isPost rfl rfl rfl (by decide +kernel) ⟨Nat.le_of_ble_eq_true rfl, Nat.le_of_ble_eq_true rfl⟩ rfl hl.1 rfl (Nat.le_of_ble_eq_true rfl) ⟨Nat.zero_le _, Nat.zero_le _⟩ dX11_let_2 (fun r_1 S_2 A_3 b_4 H locs qr_1 hM => ?_)
  obtain ⟨⟨e1, e2, e3⟩, hDr_1⟩ := qr_1
  subst e1; subst e2; subst e3
  rcases hDr_1 with ⟨er_1, ka1, hka1, eka1⟩ | ⟨er_1, hnoa1⟩
  · skip
    subst er_1
    subst eka1
    refine lv_if_eq (tgt := 16) hx hb dX11_let_5 (by decide) (fun c_5 => ?_) (fun c_5 => ?_)
    · skip
      have c_5 : 1 = 0 := (nI_eq (a := 1) (b := 0) (by omega) (by omega)).mp c_5
      exact absurd c_5 (by decide)
    · skip
      have c_5 : ¬ (1 = 0) := fun z => c_5 ((nI_eq (a := 1) (b := 0) (by omega) (by omega)).mpr z)
      refine lv_aload_n hx hb dX11_let_8 rfl (lv_at hl 0 rfl) ?_
      refine lv_iload_n hx hb dX11_let_9 rfl (lv_at hl 2 rfl) ?_
      refine q_callVI (n := 1) (o := 188) (As := [.int a2]) (rest := []) C hM hA (c_X11_isCrow E ad l S A b a2 nK hK (by omega)) (qmem_11 E ad S A b (show qk 188 = 11 from by decide +kernel)) (by decide) rfl gX11_let_X11_isCrow rfl rfl rfl (by decide +kernel) ⟨Nat.le_of_ble_eq_true rfl, Nat.le_of_ble_eq_true rfl⟩ rfl hl.1 rfl (Nat.le_of_ble_eq_true rfl) ⟨Nat.zero_le _, Nat.zero_le _⟩ dX11_let_10 (fun r_5 S_6 A_7 b_8 H locs qr_5 hM => ?_)
      obtain ⟨⟨e1, e2, e3⟩, hDr_5⟩ := qr_5
      subst e1; subst e2; subst e3
      rcases hDr_5 with ⟨er_5, ka2, hka2, eka2⟩ | ⟨er_5, hnoa2⟩
      · skip
        subst er_5
        subst eka2
        refine lv_if_ne (tgt := 19) hx hb dX11_let_13 (by decide) (fun c_13 => ?_) (fun c_13 => ?_)
        · skip
          have c_13 : ¬ (1 = 0) := fun z => c_13 ((nI_eq (a := 1) (b := 0) (by omega) (by omega)).mpr z)
          refine lv_aload_n hx hb dX11_let_19 rfl (lv_at hl 0 rfl) ?_
          refine q_get (o := 188) (ci := 11) (k := 11) (T := TX11) (v := .ref (ad 193)) C hM (qmem_11 E ad S A b (show qk 188 = 11 from by decide +kernel)) (by decide) rfl hi11 (by decide) hL0 rfl rfl dX11_let_20 ?_
          refine lv_bipush (v := 18) hx hb dX11_let_23 (by decide) ?_
          refine lv_iload_n hx hb dX11_let_25 rfl (lv_at hl 1 rfl) ?_
          refine lv_iadd hx hb dX11_let_26 ?_
          refine lv_as (y := nI (18 + ka1)) (nI_add _ _) ?_
          refine q_iald (v := A 193 (18 + ka1)) C hM (show qk 193 = 12 from by decide +kernel) (by rw [(show ql 193 = 37 from by decide +kernel)]; exact vp_nI (by omega) (by omega)) (by rw [nIc (by omega)]) dX11_let_27 ?_
          refine lv_if_ge (tgt := 39) hx hb dX11_let_28 (by decide) (fun c_28 => ?_) (fun c_28 => ?_)
          · skip
            refine lv_ldc (v := (-1000000003)) hx hb C.2.2.2.1 hL1 dX11_let_39 ?_
            exact q_iret C hM dX11_let_41 (by rw [qix_in hka1 (by omega)]; dsimp only [Option.elim]; rw [qix_in hka2 (by omega)]; dsimp only [Option.elim]; exact ⟨rfl, Or.inl ⟨by rw [if_neg (fun z => Int32.not_lt.mpr c_28 z.1)]; decide, by rw [if_neg (fun z => Int32.not_lt.mpr c_28 z.1)], rfl, rfl⟩⟩)
          · skip
            refine lv_aload_n hx hb dX11_let_31 rfl (lv_at hl 0 rfl) ?_
            refine lv_iload_n hx hb dX11_let_32 rfl (lv_at hl 2 rfl) ?_
            refine q_callVI (n := 1) (o := 188) (As := [.int (nI ka2)]) (rest := []) C hM hA (c_X11_postOf E ad l S A b (nI ka2) nP hPo (by omega)) (qmem_11 E ad S A b (show qk 188 = 11 from by decide +kernel)) (by decide) rfl gX11_let_X11_postOf rfl rfl rfl (by decide +kernel) ⟨Nat.le_of_ble_eq_true rfl, Nat.le_of_ble_eq_true rfl⟩ rfl hl.1 rfl (Nat.le_of_ble_eq_true rfl) ⟨Nat.zero_le _, Nat.zero_le _⟩ dX11_let_33 (fun r_9 S_10 A_11 b_12 H locs qr_9 hM => ?_)
            obtain ⟨⟨e1, e2, e3⟩, er_9⟩ := qr_9
            subst e1; subst e2; subst e3
            refine lv_if_lt (tgt := 42) hx hb dX11_let_36 (by decide) (fun c_36 => ?_) (fun c_36 => ?_)
            · skip
              refine lv_aload_n hx hb dX11_let_42 rfl (lv_at hl 0 rfl) ?_
              refine q_callVV (n := 0) (o := 188) (As := []) (rest := []) C hM hA (c_X11_remember E ad l S A b nc hnc (by omega)) (qmem_11 E ad S A b (show qk 188 = 11 from by decide +kernel)) (by decide) rfl gX11_let_X11_remember rfl rfl rfl (by decide +kernel) ⟨Nat.le_of_ble_eq_true rfl, Nat.le_of_ble_eq_true rfl⟩ rfl hl.1 rfl (Nat.le_of_ble_eq_true rfl) ⟨Nat.zero_le _, Nat.zero_le _⟩ dX11_let_43 (fun S_14 A_15 b_16 H locs qr_13 hM => ?_)
              obtain ⟨e3, eS_14, hfA_15, hn1, hn2⟩ := qr_13
              subst e3
              refine lv_aload_n hx hb dX11_let_46 rfl (lv_at hl 0 rfl) ?_
              refine lv_iload_n hx hb dX11_let_47 rfl (lv_at hl 1 rfl) ?_
              refine lv_iload_n hx hb dX11_let_48 rfl (lv_at hl 2 rfl) ?_
              refine q_callVI (n := 2) (o := 188) (As := [.int (nI ka1), .int (nI ka2)]) (rest := []) C hM hA (c_X11_bid E ad l S_14 A_15 b ka1 ka2 (by omega) (by omega)) (qmem_11 E ad S_14 A_15 b (show qk 188 = 11 from by decide +kernel)) (by decide) rfl gX11_let_X11_bid rfl rfl rfl (by decide +kernel) ⟨Nat.le_of_ble_eq_true rfl, Nat.le_of_ble_eq_true rfl⟩ rfl hl.1 rfl (Nat.le_of_ble_eq_true rfl) ⟨Nat.zero_le _, Nat.zero_le _⟩ dX11_let_49 (fun r_17 S_18 A_19 b_20 H locs qr_17 hM => ?_)
              obtain ⟨⟨e1, e2, e3⟩, er_17⟩ := qr_17
              subst e1; subst e2; subst e3
              rw [hfA_15 193 (by omega), hfA_15 190 (by omega), hfA_15 189 (by omega)] at er_17
              refine lv_istore_n (lv' := [(3, .int r_17), (0, .ref (ad 188)), (1, .int (nI ka1)), (2, .int (nI ka2))]) hx hb dX11_let_52 rfl hl (by decide) rfl (fun ls hl => ?_)
              refine lv_aload_n hx hb dX11_let_53 rfl (lv_at hl 1 rfl) ?_
              refine q_get (o := 188) (ci := 11) (k := 11) (T := TX11) (v := .ref (ad 193)) C hM (qmem_11 E ad S_14 A_15 b (show qk 188 = 11 from by decide +kernel)) (by decide) rfl hi11 (by decide) hL0 rfl rfl dX11_let_54 ?_
              refine lv_bipush (v := 18) hx hb dX11_let_57 (by decide) ?_
              refine lv_iload_n hx hb dX11_let_59 rfl (lv_at hl 2 rfl) ?_
              refine lv_iadd hx hb dX11_let_60 ?_
              refine lv_as (y := nI (18 + ka1)) (nI_add _ _) ?_
              refine lv_iload_n hx hb dX11_let_61 rfl (lv_at hl 3 rfl) ?_
              refine q_iast C hM (show qk 193 = 12 from by decide +kernel) (by rw [(show ql 193 = 37 from by decide +kernel)]; exact vp_nI (by omega) (by omega)) dX11_let_62 (fun H locs hM => ?_)
              rw [nIc (by omega)] at hM
              obtain ⟨A_21, eA_21⟩ : ∃ zz, zz = q2 A_15 193 (18 + ka1) (nI ka2) := ⟨_, rfl⟩
              rw [← eA_21] at hM
              refine lv_aload_n hx hb dX11_let_63 rfl (lv_at hl 1 rfl) ?_
              refine q_get (o := 188) (ci := 11) (k := 11) (T := TX11) (v := .ref (ad 193)) C hM (qmem_11 E ad S_14 A_21 b (show qk 188 = 11 from by decide +kernel)) (by decide) rfl hi11 (by decide) hL0 rfl rfl dX11_let_64 ?_
              refine lv_bipush (v := 24) hx hb dX11_let_67 (by decide) ?_
              refine lv_dup2_11 hx hb dX11_let_69 rfl rfl ?_
              refine q_iald (v := A 193 24) C hM (show qk 193 = 12 from by decide +kernel) (by rw [(show ql 193 = 37 from by decide +kernel)]; exact (vp_nI (by decide) (by decide) : vp_in (nI 24) 37)) (by rw [show Int32.toNatClampNeg 24 = 24 from by decide]; exact (show A_21 193 24 = A 193 24 from by rw [eA_21, q2_k _ _ (by omega)]; rw [hfA_15 193 (by omega)])) dX11_let_70 ?_
              refine lv_iconst (v := 1) hx hb dX11_let_71 (by decide) ?_
              refine lv_iload_n hx hb dX11_let_72 rfl (lv_at hl 2 rfl) ?_
              refine lv_ishl hx hb dX11_let_73 ?_
              refine lv_ior hx hb dX11_let_74 ?_
              refine lv_topi (fun v_22 ev_22 => ?_)
              refine q_iast C hM (show qk 193 = 12 from by decide +kernel) (by rw [(show ql 193 = 37 from by decide +kernel)]; exact (vp_nI (by decide) (by decide) : vp_in (nI 24) 37)) dX11_let_75 (fun H locs hM => ?_)
              rw [show Int32.toNatClampNeg 24 = 24 from by decide] at hM
              obtain ⟨A_23, eA_23⟩ : ∃ zz, zz = q2 A_21 193 24 v_22 := ⟨_, rfl⟩
              rw [← eA_23] at hM
              refine lv_aload_n hx hb dX11_let_76 rfl (lv_at hl 1 rfl) ?_
              refine q_get (o := 188) (ci := 11) (k := 11) (T := TX11) (v := .ref (ad 193)) C hM (qmem_11 E ad S_14 A_23 b (show qk 188 = 11 from by decide +kernel)) (by decide) rfl hi11 (by decide) hL0 rfl rfl dX11_let_77 ?_
              refine lv_bipush (v := 30) hx hb dX11_let_80 (by decide) ?_
              refine lv_iload_n hx hb dX11_let_82 rfl (lv_at hl 3 rfl) ?_
              refine lv_iadd hx hb dX11_let_83 ?_
              refine lv_as (y := nI (30 + ka2)) (nI_add _ _) ?_
              refine lv_aload_n hx hb dX11_let_84 rfl (lv_at hl 1 rfl) ?_
              refine q_get (o := 188) (ci := 11) (k := 11) (T := TX11) (v := .ref (ad 193)) C hM (qmem_11 E ad S_14 A_23 b (show qk 188 = 11 from by decide +kernel)) (by decide) rfl hi11 (by decide) hL0 rfl rfl dX11_let_85 ?_
              refine lv_bipush (v := 30) hx hb dX11_let_88 (by decide) ?_
              refine lv_iload_n hx hb dX11_let_90 rfl (lv_at hl 3 rfl) ?_
              refine lv_iadd hx hb dX11_let_91 ?_
              refine lv_as (y := nI (30 + ka2)) (nI_add _ _) ?_
              refine q_iald (v := A 193 (30 + ka2)) C hM (show qk 193 = 12 from by decide +kernel) (by rw [(show ql 193 = 37 from by decide +kernel)]; exact vp_nI (by omega) (by omega)) (by rw [nIc (by omega)]; exact (show A_23 193 (30 + ka2) = A 193 (30 + ka2) from by rw [eA_23, q2_k _ _ (by omega)]; rw [eA_21, q2_k _ _ (by omega)]; rw [hfA_15 193 (by omega)])) dX11_let_92 ?_
              refine lv_iload_n hx hb dX11_let_93 rfl (lv_at hl 0 rfl) ?_
              refine lv_iadd hx hb dX11_let_94 ?_
              refine lv_ldcw (v := 999999) hx hb C.2.2.2.1 hL2 dX11_let_95 ?_
              refine q_callSI (n := 2) (As := [.int ((A 193 (30 + ka2)) + r_17), .int 999999]) (rest := [.int (nI (30 + ka2)), .ref (ad 193)]) C hM hA (c_X11_atMost E ad l S_14 A_23 b ((A 193 (30 + ka2)) + r_17) 999999) gX11_let_X11_atMost rfl rfl rfl (by decide +kernel) ⟨Nat.le_of_ble_eq_true rfl, Nat.le_of_ble_eq_true rfl⟩ rfl hl.1 rfl (Nat.le_of_ble_eq_true rfl) ⟨Nat.zero_le _, Nat.zero_le _⟩ dX11_let_98 (fun r_24 S_25 A_26 b_27 H locs qr_24 hM => ?_)
              obtain ⟨⟨e1, e2, e3⟩, er_24⟩ := qr_24
              subst e1; subst e2; subst e3
              refine q_iast C hM (show qk 193 = 12 from by decide +kernel) (by rw [(show ql 193 = 37 from by decide +kernel)]; exact vp_nI (by omega) (by omega)) dX11_let_101 (fun H locs hM => ?_)
              rw [nIc (by omega)] at hM
              obtain ⟨A_28, eA_28⟩ : ∃ zz, zz = q2 A_23 193 (30 + ka2) r_24 := ⟨_, rfl⟩
              rw [← eA_28] at hM
              refine lv_aload_n hx hb dX11_let_102 rfl (lv_at hl 1 rfl) ?_
              refine q_get (o := 188) (ci := 11) (k := 11) (T := TX11) (v := .ref (ad 193)) C hM (qmem_11 E ad S_14 A_28 b (show qk 188 = 11 from by decide +kernel)) (by decide) rfl hi11 (by decide) hL0 rfl rfl dX11_let_103 ?_
              refine lv_bipush (v := 36) hx hb dX11_let_106 (by decide) ?_
              refine lv_aload_n hx hb dX11_let_108 rfl (lv_at hl 1 rfl) ?_
              refine q_get (o := 188) (ci := 11) (k := 11) (T := TX11) (v := .ref (ad 193)) C hM (qmem_11 E ad S_14 A_28 b (show qk 188 = 11 from by decide +kernel)) (by decide) rfl hi11 (by decide) hL0 rfl rfl dX11_let_109 ?_
              refine lv_bipush (v := 36) hx hb dX11_let_112 (by decide) ?_
              refine q_iald (v := A 193 36) C hM (show qk 193 = 12 from by decide +kernel) (by rw [(show ql 193 = 37 from by decide +kernel)]; exact (vp_nI (by decide) (by decide) : vp_in (nI 36) 37)) (by rw [show Int32.toNatClampNeg 36 = 36 from by decide]; exact (show A_28 193 36 = A 193 36 from by rw [eA_28, q2_k _ _ (by omega)]; rw [eA_23, q2_k _ _ (by omega)]; rw [eA_21, q2_k _ _ (by omega)]; rw [hfA_15 193 (by omega)])) dX11_let_114 ?_
              refine lv_iload_n hx hb dX11_let_115 rfl (lv_at hl 0 rfl) ?_
              refine lv_iadd hx hb dX11_let_116 ?_
              refine lv_ldcw (v := 999999) hx hb C.2.2.2.1 hL2 dX11_let_117 ?_
              refine q_callSI (n := 2) (As := [.int ((A 193 36) + r_17), .int 999999]) (rest := [.int 36, .ref (ad 193)]) C hM hA (c_X11_atMost E ad l S_14 A_28 b ((A 193 36) + r_17) 999999) gX11_let_X11_atMost rfl rfl rfl (by decide +kernel) ⟨Nat.le_of_ble_eq_true rfl, Nat.le_of_ble_eq_true rfl⟩ rfl hl.1 rfl (Nat.le_of_ble_eq_true rfl) ⟨Nat.zero_le _, Nat.zero_le _⟩ dX11_let_120 (fun r_29 S_30 A_31 b_32 H locs qr_29 hM => ?_)
              obtain ⟨⟨e1, e2, e3⟩, er_29⟩ := qr_29
              subst e1; subst e2; subst e3
              refine q_iast C hM (show qk 193 = 12 from by decide +kernel) (by rw [(show ql 193 = 37 from by decide +kernel)]; exact (vp_nI (by decide) (by decide) : vp_in (nI 36) 37)) dX11_let_123 (fun H locs hM => ?_)
              rw [show Int32.toNatClampNeg 36 = 36 from by decide] at hM
              obtain ⟨A_33, eA_33⟩ : ∃ zz, zz = q2 A_28 193 36 r_29 := ⟨_, rfl⟩
              rw [← eA_33] at hM
              refine lv_iload_n hx hb dX11_let_124 rfl (lv_at hl 0 rfl) ?_
              exact q_iret C hM dX11_let_125 (by rw [qix_in hka1 (by omega)]; dsimp only [Option.elim]; rw [qix_in hka2 (by omega)]; dsimp only [Option.elim]; exact ⟨rfl, Or.inr ⟨by rw [if_pos ⟨Int32.not_le.mp c_28, er_9 ▸ c_36⟩], ka1, ka2, hka1, hka2, rfl, rfl, ⟨(show S_14 188 30 = nI (min (nc + 1) 20) from by rw [eS_14]; exact q2_s _ _ _ _), fun k3 hk3 => by rw [eA_33, q2_or _ _ (by omega), eA_28, q2_or _ _ (by omega), eA_23, q2_or _ _ (by omega), eA_21, q2_or _ _ (by omega)]; exact hn1 k3 hk3, fun j3 hj3 k3 hk3 => by rw [eA_33, q2_or _ _ (by omega), eA_28, q2_or _ _ (by omega), eA_23, q2_or _ _ (by omega), eA_21, q2_or _ _ (by omega)]; exact hn2 j3 hj3 k3 hk3⟩, ⟨fun i h1 h2 => by rw [eA_33, q2_or _ _ (by omega), eA_28, q2_or _ _ (by omega), eA_23, q2_or _ _ (by omega), eA_21, q2_or _ _ (by omega), hfA_15 i (by omega)], fun i j h => by rw [eS_14]; exact q2_ne _ _ h⟩, er_17, by rw [eA_33, q2_row, eA_28, q2_row, eA_23, q2_row, eA_21, q2_row, hfA_15 193 (by omega), er_29, er_24, ev_22, er_17]; rfl⟩⟩)
            · skip
              refine lv_ldc (v := (-1000000003)) hx hb C.2.2.2.1 hL1 dX11_let_39 ?_
              exact q_iret C hM dX11_let_41 (by rw [qix_in hka1 (by omega)]; dsimp only [Option.elim]; rw [qix_in hka2 (by omega)]; dsimp only [Option.elim]; exact ⟨rfl, Or.inl ⟨by rw [if_neg (fun z => c_36 (er_9 ▸ z.2))]; decide, by rw [if_neg (fun z => c_36 (er_9 ▸ z.2))], rfl, rfl⟩⟩)
        · skip
          have c_13 : 1 = 0 := (nI_eq (a := 1) (b := 0) (by omega) (by omega)).mp c_13
          exact absurd c_13 (by decide)
      · skip
        subst er_5
        refine lv_if_ne (tgt := 19) hx hb dX11_let_13 (by decide) (fun c_13 => ?_) (fun c_13 => ?_)
        · skip
          have c_13 : ¬ (0 = 0) := fun z => c_13 ((nI_eq (a := 0) (b := 0) (by omega) (by omega)).mpr z)
          exact absurd rfl c_13
        · skip
          have c_13 : 0 = 0 := (nI_eq (a := 0) (b := 0) (by omega) (by omega)).mp c_13
          refine lv_ldc (v := (-1000000001)) hx hb C.2.2.2.1 hL3 dX11_let_16 ?_
          exact q_iret C hM dX11_let_18 (by rw [qix_in hka1 (by omega)]; dsimp only [Option.elim]; rw [qix_out (by omega) hnoa2]; dsimp only [Option.elim]; exact ⟨rfl, Or.inl ⟨by decide, rfl, rfl, rfl⟩⟩)
  · skip
    subst er_1
    refine lv_if_eq (tgt := 16) hx hb dX11_let_5 (by decide) (fun c_5 => ?_) (fun c_5 => ?_)
    · skip
      have c_5 : 0 = 0 := (nI_eq (a := 0) (b := 0) (by omega) (by omega)).mp c_5
      refine lv_ldc (v := (-1000000001)) hx hb C.2.2.2.1 hL3 dX11_let_16 ?_
      exact q_iret C hM dX11_let_18 (by rw [qix_out (by omega) hnoa1]; dsimp only [Option.elim]; exact ⟨rfl, Or.inl ⟨by decide, rfl, rfl, rfl⟩⟩)
    · skip
      have c_5 : ¬ (0 = 0) := fun z => c_5 ((nI_eq (a := 0) (b := 0) (by omega) (by omega)).mpr z)
      exact absurd rfl c_5

set_option maxHeartbeats 4000000 in
set_option maxRecDepth 100000 in
theorem c_X11_hour (E : qE) (ad : Nat → Nat) (l : Launch) (S A : qA2) (b : qB) (a1 : Int32) (nC : Nat) (hC : S 188 0 = nI nC) (hCb : nC ≤ 12) (nP : Nat) (hPo : S 188 4 = nI nP) (hPb : nP ≤ 6) (nW : Nat) (hWi : S 188 8 = nI nW) (hWb : nW ≤ 10) (nH : Nat) (hH : A 193 35 = nI nH) (hHb : nH ≤ 80000) (nc : Nat) (hnc : S 188 30 = nI nc) (hncb : nc ≤ 20) : MI E ad l yX11_hour wsX11_hour { frames := 5, cells := 0, slots := 0, locals := 116 } [.ref (ad 188), .int a1] S A b (fun r S' A' b' => b = b' ∧ ((¬ qrefh a1 nC (A 193 35) = 0 ∧ r = qrefh a1 nC (A 193 35) ∧ S = S' ∧ A = A') ∨ (qrefh a1 nC (A 193 35) = 0 ∧ ∃ n, (1 ≤ n ∧ n ≤ 60) ∧ a1 = nI n ∧ mNoted nc S A S' A' ∧ mKeep S A S' A' ∧ r = qsum (A' 193) nC ∧ A' 193 = mpass nC nP nW (S 188 1) (A 191) (A 192) (A 193) n))) := by
  refine MI.of (cc := cX11_hour) (maxL := 4) (ret := some .int) RX11 rfl (by decide) rfl ?_
  intro pg e s m below meth cd C hM
  have hx := C.1
  have hb := C.2.1
  have hts := C.2.2.2.2.1
  have hA : ∀ q, s.heap.size ≤ q → qAr ad s.heap.size q := fun _ h => Or.inr h
  have hl := lv_entry ([.ref (ad 188), .int a1]) (n := 4) (Nat.le_of_ble_eq_true rfl)
  rw [lg_entry_eq]
  generalize (lg_sl ([.ref (ad 188), .int a1]) ++ List.replicate (4 - (lg_sl ([.ref (ad 188), .int a1])).length) Slot.unset).toArray = ls at hl ⊢
  have hl : lv_has ls 4 [(0, .ref (ad 188)), (1, .int a1)] := hl
  refine lv_aload_n hx hb dX11_hour_0 rfl (lv_at hl 0 rfl) ?_
  refine lv_iload_n hx hb dX11_hour_1 rfl (lv_at hl 1 rfl) ?_
  refine q_callVI (n := 1) (o := 188) (As := [.int a1]) (rest := []) C hM hA (c_X11_hoursRefused E ad l S A b a1 nC hC (by omega)) (qmem_11 E ad S A b (show qk 188 = 11 from by decide +kernel)) (by decide) rfl gX11_hour_X11_hoursRefused rfl rfl rfl (by decide +kernel) ⟨Nat.le_of_ble_eq_true rfl, Nat.le_of_ble_eq_true rfl⟩ rfl hl.1 rfl (Nat.le_of_ble_eq_true rfl) ⟨Nat.zero_le _, Nat.zero_le _⟩ dX11_hour_2 (fun r_1 S_2 A_3 b_4 H locs qr_1 hM => ?_)
  obtain ⟨⟨e1, e2, e3⟩, er_1⟩ := qr_1
  subst e1; subst e2; subst e3
  refine lv_istore_n (lv' := [(2, .int r_1), (0, .ref (ad 188)), (1, .int a1)]) hx hb dX11_hour_5 rfl hl (by decide) rfl (fun ls hl => ?_)
  refine lv_iload_n hx hb dX11_hour_6 rfl (lv_at hl 0 rfl) ?_
  refine lv_if_eq (tgt := 12) hx hb dX11_hour_7 (by decide) (fun c_7 => ?_) (fun c_7 => ?_)
  · skip
    refine lv_aload_n hx hb dX11_hour_12 rfl (lv_at hl 1 rfl) ?_
    obtain ⟨hin, hC0, hh9⟩ := qrefh_0 (er_1.symm.trans c_7)
    obtain ⟨ka1, hloka1, hhika1, eka1⟩ := qin_of (l := 1) (h := 60) rfl rfl (by omega) (by omega) hin
    subst eka1
    refine q_callVV (n := 0) (o := 188) (As := []) (rest := []) C hM hA (c_X11_remember E ad l S A b nc hnc (by omega)) (qmem_11 E ad S A b (show qk 188 = 11 from by decide +kernel)) (by decide) rfl gX11_hour_X11_remember rfl rfl rfl (by decide +kernel) ⟨Nat.le_of_ble_eq_true rfl, Nat.le_of_ble_eq_true rfl⟩ rfl hl.1 rfl (Nat.le_of_ble_eq_true rfl) ⟨Nat.zero_le _, Nat.zero_le _⟩ dX11_hour_13 (fun S_6 A_7 b_8 H locs qr_5 hM => ?_)
    obtain ⟨e3, eS_6, hfA_7, hn1, hn2⟩ := qr_5
    subst e3
    refine lv_iconst (v := 0) hx hb dX11_hour_16 (by decide) ?_
    refine lv_istore_n (lv' := [(3, .int 0), (2, .int r_1), (0, .ref (ad 188)), (1, .int (nI ka1))]) hx hb dX11_hour_17 rfl hl (by decide) rfl (fun ls hl => ?_)
    have loop18 : ∀ (fu : Nat) (k : Nat) (A18 : qA2) (hk : k ≤ ka1) (hr : A18 193 = mpass nC nP nW (S 188 1) (A 191) (A 192) (A 193) k) (hf : ∀ i, i ≠ 193 → A18 i = A_7 i) (hh : A18 193 35 = nI (nH + k)), ka1 - k < fu → ∀ (H : Heap) (locs : List Loc) (ls : Array Slot), qM E ad S_6 A18 b (qAr ad s.heap.size) s H locs → lv_has ls 4 [(3, .int (nI k)), (2, .int r_1), (0, .ref (ad 188)), (1, .int (nI ka1))] → W pg l e (headSpec wsX11_hour { frames := 5, cells := 0, slots := 0, locals := 116 }).room s m ([.ref (ad 188), .int (nI ka1)] : List Value).toArray below meth cd H locs 0 0 (MQ below (qQi E ad s.heap.size (fun r S' A' b' => b = b' ∧ ((¬ qrefh (nI ka1) nC (A 193 35) = 0 ∧ r = qrefh (nI ka1) nC (A 193 35) ∧ S = S' ∧ A = A') ∨ (qrefh (nI ka1) nC (A 193 35) = 0 ∧ ∃ n, (1 ≤ n ∧ n ≤ 60) ∧ (nI ka1) = nI n ∧ mNoted nc S A S' A' ∧ mKeep S A S' A' ∧ r = qsum (A' 193) nC ∧ A' 193 = mpass nC nP nW (S 188 1) (A 191) (A 192) (A 193) n)))) ([.ref (ad 188), .int (nI ka1)] : List Value).toArray s 0 0 (qAr ad s.heap.size)) (F0 m 18 ls []) := by
      intro fu
      induction fu with
      | zero => intro k A18 hk hr hf hh hn; exact absurd hn (Nat.not_lt_zero _)
      | succ fu ih18 =>
        intro k A18 hk hr hf hh hn H locs ls hM hl
        refine lv_iload_n hx hb dX11_hour_18 rfl (lv_at hl 0 rfl) ?_
        refine lv_iload_n hx hb dX11_hour_19 rfl (lv_at hl 3 rfl) ?_
        refine lv_icmp_ge (tgt := 33) hx hb dX11_hour_20 (by decide) (fun c_20 => ?_) (fun c_20 => ?_)
        · skip
          have c_20 : ka1 ≤ k := (nI_leI (a := ka1) (b := k) (by omega) (by omega)).mp c_20
          refine lv_aload_n hx hb dX11_hour_33 rfl (lv_at hl 2 rfl) ?_
          refine q_callVI (n := 0) (o := 188) (As := []) (rest := []) C hM hA (c_X11_allSnow E ad l S_6 A18 b nC ((show S_6 188 0 = S 188 0 from by rw [eS_6, q2_k _ _ (by omega)]).trans hC) (by omega)) (qmem_11 E ad S_6 A18 b (show qk 188 = 11 from by decide +kernel)) (by decide) rfl gX11_hour_X11_allSnow rfl rfl rfl (by decide +kernel) ⟨Nat.le_of_ble_eq_true rfl, Nat.le_of_ble_eq_true rfl⟩ rfl hl.1 rfl (Nat.le_of_ble_eq_true rfl) ⟨Nat.zero_le _, Nat.zero_le _⟩ dX11_hour_34 (fun r_9 S_10 A_11 b_12 H locs qr_9 hM => ?_)
          obtain ⟨⟨e1, e2, e3⟩, er_9⟩ := qr_9
          subst e1; subst e2; subst e3
          exact q_iret C hM dX11_hour_37 (by exact ⟨rfl, Or.inr ⟨er_1.symm.trans c_7, ka1, ⟨hloka1, hhika1⟩, rfl, ⟨(show S_6 188 30 = nI (min (nc + 1) 20) from by rw [eS_6]; exact q2_s _ _ _ _), fun k3 hk3 => by rw [hf 202 (by omega)]; exact hn1 k3 hk3, fun j3 hj3 k3 hk3 => by rw [hf 202 (by omega)]; exact hn2 j3 hj3 k3 hk3⟩, ⟨fun i h1 h2 => by rw [hf i (by omega), hfA_7 i (by omega)], fun i j h => by rw [eS_6]; exact q2_ne _ _ h⟩, er_9, by rw [hr, show k = ka1 by omega]⟩⟩)
        · skip
          have c_20 : ¬ (ka1 ≤ k) := fun z => c_20 ((nI_leI (a := ka1) (b := k) (by omega) (by omega)).mpr z)
          refine lv_aload_n hx hb dX11_hour_23 rfl (lv_at hl 2 rfl) ?_
          refine q_callVV (n := 0) (o := 188) (As := []) (rest := []) C hM hA (c_X11_pass E ad l S_6 A18 b nC ((show S_6 188 0 = S 188 0 from by rw [eS_6, q2_k _ _ (by omega)]).trans hC) (by omega) nP ((show S_6 188 4 = S 188 4 from by rw [eS_6, q2_k _ _ (by omega)]).trans hPo) (by omega) nW ((show S_6 188 8 = S 188 8 from by rw [eS_6, q2_k _ _ (by omega)]).trans hWi) (by omega) (nH + k) hh (by omega)) (qmem_11 E ad S_6 A18 b (show qk 188 = 11 from by decide +kernel)) (by decide) rfl gX11_hour_X11_pass rfl rfl rfl (by decide +kernel) ⟨Nat.le_of_ble_eq_true rfl, Nat.le_of_ble_eq_true rfl⟩ rfl hl.1 rfl (Nat.le_of_ble_eq_true rfl) ⟨Nat.zero_le _, Nat.zero_le _⟩ dX11_hour_24 (fun S_14 A_15 b_16 H locs qr_13 hM => ?_)
          obtain ⟨⟨e1, e3⟩, hrA_15, hfA_15⟩ := qr_13
          subst e1; subst e3
          refine lv_iinc (v := nI (k + 1)) (lv' := [(3, .int (nI (k + 1))), (2, .int r_1), (0, .ref (ad 188)), (1, .int (nI ka1))]) hx hb dX11_hour_27 hl (k := 0) rfl (by rw [nI_succ]; rfl) (by decide) rfl (fun ls hl => ?_)
          refine lv_goto (tgt := 18) hx hb dX11_hour_30 (by decide) ?_
          exact ih18 (k + 1) A_15 (by omega) (by rw [hrA_15, hr, hf 191 (by omega), hf 192 (by omega), hfA_7 191 (by omega), hfA_7 192 (by omega), eS_6, q2_k _ _ (by omega)]; rfl) (fun i hi => (hfA_15 i hi).trans (hf i hi)) (by rw [hrA_15, mhour_35 (by omega), hh]; exact (nI_succ _).symm) (by omega) _ _ _ hM hl
    exact loop18 (ka1 - 0 + 1) 0 A_7 (by omega) (by rw [hfA_7 193 (by omega)]; rfl) (fun _ _ => rfl) (by rw [hfA_7 193 (by omega)]; exact hH) (Nat.lt_succ_self _) _ _ _ hM hl
  · skip
    refine lv_iload_n hx hb dX11_hour_10 rfl (lv_at hl 0 rfl) ?_
    exact q_iret C hM dX11_hour_11 (by exact ⟨rfl, Or.inl ⟨fun z => c_7 (er_1.trans z), er_1, rfl, rfl⟩⟩)

set_option maxHeartbeats 4000000 in
set_option maxRecDepth 100000 in
theorem c_X11_undo (E : qE) (ad : Nat → Nat) (l : Launch) (S A : qA2) (b : qB) (nc : Nat) (hnc : S 188 30 = nI nc) (hncb : nc ≤ 20) : MI E ad l yX11_undo wsX11_undo { frames := 0, cells := 0, slots := 0, locals := 0 } [.ref (ad 188)] S A b (fun r S' A' b' => b = b' ∧ ((nc = 0 ∧ r = (-1000000003) ∧ S = S' ∧ A = A') ∨ (¬ nc = 0 ∧ r = nI (nc - 1) ∧ S' = q2 S 188 30 (nI (nc - 1)) ∧ (∀ k, k < 37 → A' 193 k = A 202 (37 * (nc - 1) + k)) ∧ ∀ i, i ≠ 193 → A' i = A i))) := by
  refine MI.of (cc := cX11_undo) (maxL := 2) (ret := some .int) RX11 rfl (by decide) rfl ?_
  intro pg e s m below meth cd C hM
  have hx := C.1
  have hb := C.2.1
  have hts := C.2.2.2.2.1
  have hA : ∀ q, s.heap.size ≤ q → qAr ad s.heap.size q := fun _ h => Or.inr h
  have hi11 : ∀ w ∈ u_ws RX11 TX11 45, w ∈ wsX11_undo := by decide +kernel
  have hL0 := hts (.fieldLink RX11 204 "CrowFencesModel" "undos" "I") (by decide +kernel)
  have hL1 := hts (.fieldLink RX11 22 "CrowFencesModel" "now" "[I") (by decide +kernel)
  have hL2 := hts (.fieldLink RX11 53 "CrowFencesModel" "past" "[I") (by decide +kernel)
  have hL3 := hts (.constant RX11 247 (-1000000003)) (by decide +kernel)
  have hl := lv_entry ([.ref (ad 188)]) (n := 2) (Nat.le_of_ble_eq_true rfl)
  rw [lg_entry_eq]
  generalize (lg_sl ([.ref (ad 188)]) ++ List.replicate (2 - (lg_sl ([.ref (ad 188)])).length) Slot.unset).toArray = ls at hl ⊢
  have hl : lv_has ls 2 [(0, .ref (ad 188))] := hl
  refine lv_aload_n hx hb dX11_undo_0 rfl (lv_at hl 0 rfl) ?_
  refine q_get (o := 188) (ci := 11) (k := 30) (T := TX11) (v := .int (S 188 30)) C hM (qmem_11 E ad S A b (show qk 188 = 11 from by decide +kernel)) (by decide) rfl hi11 (by decide) hL0 rfl rfl dX11_undo_1 ?_
  refine lv_as (y := nI nc) hnc ?_
  refine lv_if_ne (tgt := 10) hx hb dX11_undo_4 (by decide) (fun c_4 => ?_) (fun c_4 => ?_)
  · skip
    have c_4 : ¬ (nc = 0) := fun z => c_4 ((nI_eq (a := nc) (b := 0) (by omega) (by omega)).mpr z)
    refine lv_aload_n hx hb dX11_undo_10 rfl (lv_at hl 0 rfl) ?_
    refine lv_dup hx hb dX11_undo_11 rfl ?_
    refine q_get (o := 188) (ci := 11) (k := 30) (T := TX11) (v := .int (S 188 30)) C hM (qmem_11 E ad S A b (show qk 188 = 11 from by decide +kernel)) (by decide) rfl hi11 (by decide) hL0 rfl rfl dX11_undo_12 ?_
    refine lv_as (y := nI nc) hnc ?_
    refine lv_iconst (v := 1) hx hb dX11_undo_15 (by decide) ?_
    refine lv_isub hx hb dX11_undo_16 ?_
    refine lv_as (y := nI (nc - 1)) (pk_sub (a := nc) (b := 1) (by omega)) ?_
    refine q_put (o := 188) (ci := 11) (k := 30) (T := TX11) (ty := .int) (v := nI (nc - 1)) C hM (qmem_11 E ad S A b (show qk 188 = 11 from by decide +kernel)) (by decide) rfl hi11 tyX11 tyX11_ok nmX11 (by decide) hL0 rfl rfl (by decide +kernel) rfl rfl (Nat.le_of_ble_eq_true rfl) (qs_11_30 E ad S A b (show qk 188 = 11 from by decide +kernel) (nI (nc - 1))) dX11_undo_17 (fun H locs hM => ?_)
    obtain ⟨S_1, eS_1⟩ : ∃ zz, zz = q2 S 188 30 (nI (nc - 1)) := ⟨_, rfl⟩
    rw [← eS_1] at hM
    refine lv_iconst (v := 0) hx hb dX11_undo_20 (by decide) ?_
    refine lv_istore_n (lv' := [(1, .int 0), (0, .ref (ad 188))]) hx hb dX11_undo_21 rfl hl (by decide) rfl (fun ls hl => ?_)
    have loop22 : ∀ (fu : Nat) (k : Nat) (A22 : qA2) (hk : k ≤ 37) (hr : ∀ j, j < k → A22 193 j = A 202 (37 * (nc - 1) + j)) (hf : ∀ i, i ≠ 193 → A22 i = A i), 37 - k < fu → ∀ (H : Heap) (locs : List Loc) (ls : Array Slot), qM E ad S_1 A22 b (qAr ad s.heap.size) s H locs → lv_has ls 2 [(1, .int (nI k)), (0, .ref (ad 188))] → W pg l e (headSpec wsX11_undo { frames := 0, cells := 0, slots := 0, locals := 0 }).room s m ([.ref (ad 188)] : List Value).toArray below meth cd H locs 0 0 (MQ below (qQi E ad s.heap.size (fun r S' A' b' => b = b' ∧ ((nc = 0 ∧ r = (-1000000003) ∧ S = S' ∧ A = A') ∨ (¬ nc = 0 ∧ r = nI (nc - 1) ∧ S' = q2 S 188 30 (nI (nc - 1)) ∧ (∀ k, k < 37 → A' 193 k = A 202 (37 * (nc - 1) + k)) ∧ ∀ i, i ≠ 193 → A' i = A i)))) ([.ref (ad 188)] : List Value).toArray s 0 0 (qAr ad s.heap.size)) (F0 m 22 ls []) := by
      intro fu
      induction fu with
      | zero => intro k A22 hk hr hf hn; exact absurd hn (Nat.not_lt_zero _)
      | succ fu ih22 =>
        intro k A22 hk hr hf hn H locs ls hM hl
        refine lv_iload_n hx hb dX11_undo_22 rfl (lv_at hl 0 rfl) ?_
        refine lv_bipush (v := 37) hx hb dX11_undo_23 (by decide) ?_
        refine lv_icmp_ge (tgt := 54) hx hb dX11_undo_25 (by decide) (fun c_25 => ?_) (fun c_25 => ?_)
        · skip
          have c_25 : 37 ≤ k := (nI_leI (a := 37) (b := k) (by omega) (by omega)).mp c_25
          refine lv_aload_n hx hb dX11_undo_54 rfl (lv_at hl 1 rfl) ?_
          refine q_get (o := 188) (ci := 11) (k := 30) (T := TX11) (v := .int (nI (nc - 1))) C hM (qmem_11 E ad S_1 A22 b (show qk 188 = 11 from by decide +kernel)) (by decide) rfl hi11 (by decide) hL0 rfl (congrArg (fun z => some (Value.int z)) (show S_1 188 30 = nI (nc - 1) from by rw [eS_1]; exact q2_s _ _ _ _)) dX11_undo_55 ?_
          exact q_iret C hM dX11_undo_58 (by exact ⟨rfl, Or.inr ⟨c_4, rfl, eS_1, fun k3 hk3 => hr k3 (by omega), hf⟩⟩)
        · skip
          have c_25 : ¬ (37 ≤ k) := fun z => c_25 ((nI_leI (a := 37) (b := k) (by omega) (by omega)).mpr z)
          refine lv_aload_n hx hb dX11_undo_28 rfl (lv_at hl 1 rfl) ?_
          refine q_get (o := 188) (ci := 11) (k := 11) (T := TX11) (v := .ref (ad 193)) C hM (qmem_11 E ad S_1 A22 b (show qk 188 = 11 from by decide +kernel)) (by decide) rfl hi11 (by decide) hL1 rfl rfl dX11_undo_29 ?_
          refine lv_iload_n hx hb dX11_undo_32 rfl (lv_at hl 0 rfl) ?_
          refine lv_aload_n hx hb dX11_undo_33 rfl (lv_at hl 1 rfl) ?_
          refine q_get (o := 188) (ci := 11) (k := 31) (T := TX11) (v := .ref (ad 202)) C hM (qmem_11 E ad S_1 A22 b (show qk 188 = 11 from by decide +kernel)) (by decide) rfl hi11 (by decide) hL2 rfl rfl dX11_undo_34 ?_
          refine lv_bipush (v := 37) hx hb dX11_undo_37 (by decide) ?_
          refine lv_aload_n hx hb dX11_undo_39 rfl (lv_at hl 1 rfl) ?_
          refine q_get (o := 188) (ci := 11) (k := 30) (T := TX11) (v := .int (nI (nc - 1))) C hM (qmem_11 E ad S_1 A22 b (show qk 188 = 11 from by decide +kernel)) (by decide) rfl hi11 (by decide) hL0 rfl (congrArg (fun z => some (Value.int z)) (show S_1 188 30 = nI (nc - 1) from by rw [eS_1]; exact q2_s _ _ _ _)) dX11_undo_40 ?_
          refine lv_imul hx hb dX11_undo_43 ?_
          refine lv_as (y := nI (37 * (nc - 1))) (pk_mul _ _) ?_
          refine lv_iload_n hx hb dX11_undo_44 rfl (lv_at hl 0 rfl) ?_
          refine lv_iadd hx hb dX11_undo_45 ?_
          refine lv_as (y := nI ((37 * (nc - 1)) + k)) (nI_add _ _) ?_
          refine q_iald (v := A 202 ((37 * (nc - 1)) + k)) C hM (show qk 202 = 12 from by decide +kernel) (by rw [(show ql 202 = 740 from by decide +kernel)]; exact vp_nI (by omega) (by omega)) (by rw [nIc (by omega)]; exact (show A22 202 ((37 * (nc - 1)) + k) = A 202 ((37 * (nc - 1)) + k) from by rw [hf 202 (by omega)])) dX11_undo_46 ?_
          refine lv_topi (fun v_2 ev_2 => ?_)
          refine q_iast C hM (show qk 193 = 12 from by decide +kernel) (by rw [(show ql 193 = 37 from by decide +kernel)]; exact vp_nI (by omega) (by omega)) dX11_undo_47 (fun H locs hM => ?_)
          rw [nIc (by omega)] at hM
          obtain ⟨A_3, eA_3⟩ : ∃ zz, zz = q2 A22 193 k v_2 := ⟨_, rfl⟩
          rw [← eA_3] at hM
          refine lv_iinc (v := nI (k + 1)) (lv' := [(1, .int (nI (k + 1))), (0, .ref (ad 188))]) hx hb dX11_undo_48 hl (k := 0) rfl (by rw [nI_succ]; rfl) (by decide) rfl (fun ls hl => ?_)
          refine lv_goto (tgt := 22) hx hb dX11_undo_51 (by decide) ?_
          exact ih22 (k + 1) A_3 (by omega) (fun j hj => by rw [eA_3, q2_row]; by_cases hz : j = k; (subst hz; rw [upd_s]; exact ev_2); (rw [upd_o _ _ hz]; exact hr j (by omega))) (by rw [eA_3]; exact qfr_up hf) (by omega) _ _ _ hM hl
    exact loop22 (37 - 0 + 1) 0 A (by omega) (fun j hj => absurd hj (Nat.not_lt_zero _)) (fun _ _ => rfl) (Nat.lt_succ_self _) _ _ _ hM hl
  · skip
    have c_4 : nc = 0 := (nI_eq (a := nc) (b := 0) (by omega) (by omega)).mp c_4
    refine lv_ldc (v := (-1000000003)) hx hb C.2.2.2.1 hL3 dX11_undo_7 ?_
    exact q_iret C hM dX11_undo_9 (by exact ⟨rfl, Or.inl ⟨c_4, rfl, rfl, rfl⟩⟩)

set_option maxHeartbeats 4000000 in
set_option maxRecDepth 100000 in
theorem c_X11_lies (E : qE) (ad : Nat → Nat) (l : Launch) (S A : qA2) (b : qB) (a1 a2 : Int32) (nC : Nat) (hC : S 188 0 = nI nC) (hCb : nC ≤ 12) (nP : Nat) (hPo : S 188 4 = nI nP) (hPb : nP ≤ 6) (nW : Nat) (hWi : S 188 8 = nI nW) (hWb : nW ≤ 10) (nH : Nat) (hH : A 193 35 = nI nH) (hHb : nH ≤ 80000) : MI E ad l yX11_lies wsX11_lies { frames := 6, cells := 0, slots := 0, locals := 138 } [.ref (ad 188), .int a1, .int a2] S A b (fun r S' A' b' => (S = S' ∧ b = b') ∧ r = (qix a1 nC).elim (-1000000001) (fun k => (qir a2 0 40).elim (-1000000002) (fun n => mpass nC nP nW (S 188 1) (A 191) (A 192) (A 193) n k)) ∧ ∀ i, i ≠ 203 → A' i = A i) := by
  refine MI.of (cc := cX11_lies) (maxL := 4) (ret := some .int) RX11 rfl (by decide) rfl ?_
  intro pg e s m below meth cd C hM
  have hx := C.1
  have hb := C.2.1
  have hts := C.2.2.2.2.1
  have hA : ∀ q, s.heap.size ≤ q → qAr ad s.heap.size q := fun _ h => Or.inr h
  have hi11 : ∀ w ∈ u_ws RX11 TX11 45, w ∈ wsX11_lies := by decide +kernel
  have hL0 := hts (.constantLong RX11 279 (40)) (by decide +kernel)
  have hL1 := hts (.fieldLink RX11 22 "CrowFencesModel" "now" "[I") (by decide +kernel)
  have hL2 := hts (.constant RX11 105 (-1000000002)) (by decide +kernel)
  have hL3 := hts (.constant RX11 219 (-1000000001)) (by decide +kernel)
  have hl := lv_entry ([.ref (ad 188), .int a1, .int a2]) (n := 4) (Nat.le_of_ble_eq_true rfl)
  rw [lg_entry_eq]
  generalize (lg_sl ([.ref (ad 188), .int a1, .int a2]) ++ List.replicate (4 - (lg_sl ([.ref (ad 188), .int a1, .int a2])).length) Slot.unset).toArray = ls at hl ⊢
  have hl : lv_has ls 4 [(0, .ref (ad 188)), (1, .int a1), (2, .int a2)] := hl
  refine lv_aload_n hx hb dX11_lies_0 rfl (lv_at hl 0 rfl) ?_
  refine lv_iload_n hx hb dX11_lies_1 rfl (lv_at hl 1 rfl) ?_
  refine q_callVI (n := 1) (o := 188) (As := [.int a1]) (rest := []) C hM hA (c_X11_isCell E ad l S A b a1 nC hC (by omega)) (qmem_11 E ad S A b (show qk 188 = 11 from by decide +kernel)) (by decide) rfl gX11_lies_X11_isCell rfl rfl rfl (by decide +kernel) ⟨Nat.le_of_ble_eq_true rfl, Nat.le_of_ble_eq_true rfl⟩ rfl hl.1 rfl (Nat.le_of_ble_eq_true rfl) ⟨Nat.zero_le _, Nat.zero_le _⟩ dX11_lies_2 (fun r_1 S_2 A_3 b_4 H locs qr_1 hM => ?_)
  obtain ⟨⟨e1, e2, e3⟩, hDr_1⟩ := qr_1
  subst e1; subst e2; subst e3
  rcases hDr_1 with ⟨er_1, ka1, hka1, eka1⟩ | ⟨er_1, hnoa1⟩
  · skip
    subst er_1
    subst eka1
    refine lv_if_ne (tgt := 11) hx hb dX11_lies_5 (by decide) (fun c_5 => ?_) (fun c_5 => ?_)
    · skip
      have c_5 : ¬ (1 = 0) := fun z => c_5 ((nI_eq (a := 1) (b := 0) (by omega) (by omega)).mpr z)
      refine lv_iload_n hx hb dX11_lies_11 rfl (lv_at hl 2 rfl) ?_
      refine lv_i2l (v := (a2 : Int32).toInt64) hx hb dX11_lies_12 rfl ?_
      refine lv_lconst (v := 0) hx hb dX11_lies_13 rfl ?_
      refine lv_ldc2 (v := 40) hx hb C.2.2.2.1 hL0 dX11_lies_14 ?_
      refine q_callSI (n := 3) (As := [.long ((a2 : Int32).toInt64), .long 0, .long 40]) (rest := []) C hM hA (c_X11_in E ad l S A b ((a2 : Int32).toInt64) 0 40) gX11_lies_X11_in rfl rfl rfl (by decide +kernel) ⟨Nat.le_of_ble_eq_true rfl, Nat.le_of_ble_eq_true rfl⟩ rfl hl.1 rfl (Nat.le_of_ble_eq_true rfl) ⟨Nat.zero_le _, Nat.zero_le _⟩ dX11_lies_17 (fun r_5 S_6 A_7 b_8 H locs qr_5 hM => ?_)
      obtain ⟨⟨e1, e2, e3⟩, er_5⟩ := qr_5
      subst e1; subst e2; subst e3
      rw [q64 (x := a2) (lo := 0) (hi := 40) (by first | rfl | decide) (by first | rfl | decide)] at er_5
      rcases q01_cases (0 ≤ a2 ∧ a2 ≤ 40) with ⟨hzr_5, hir_5⟩ | ⟨hzr_5, hir_5⟩
      · skip
        rw [hzr_5] at er_5
        subst er_5
        obtain ⟨ka2, hloka2, hhika2, eka2⟩ := qin_of (l := 0) (h := 40) rfl rfl (by omega) (by omega) hir_5
        subst eka2
        refine lv_if_ne (tgt := 26) hx hb dX11_lies_20 (by decide) (fun c_20 => ?_) (fun c_20 => ?_)
        · skip
          have c_20 : ¬ (1 = 0) := fun z => c_20 ((nI_eq (a := 1) (b := 0) (by omega) (by omega)).mpr z)
          refine lv_aload_n hx hb dX11_lies_26 rfl (lv_at hl 0 rfl) ?_
          refine q_callVV (n := 0) (o := 188) (As := []) (rest := []) C hM hA (c_X11_save E ad l S A b) (qmem_11 E ad S A b (show qk 188 = 11 from by decide +kernel)) (by decide) rfl gX11_lies_X11_save rfl rfl rfl (by decide +kernel) ⟨Nat.le_of_ble_eq_true rfl, Nat.le_of_ble_eq_true rfl⟩ rfl hl.1 rfl (Nat.le_of_ble_eq_true rfl) ⟨Nat.zero_le _, Nat.zero_le _⟩ dX11_lies_27 (fun S_10 A_11 b_12 H locs qr_9 hM => ?_)
          obtain ⟨⟨e1, e3⟩, hrA_11, hfA_11⟩ := qr_9
          subst e1; subst e3
          refine lv_aload_n hx hb dX11_lies_30 rfl (lv_at hl 0 rfl) ?_
          refine lv_iload_n hx hb dX11_lies_31 rfl (lv_at hl 2 rfl) ?_
          refine q_callVV (n := 1) (o := 188) (As := [.int (nI ka2)]) (rest := []) C hM hA (c_X11_passAll E ad l S A_11 b ka2 (by omega) nC hC (by omega) nP hPo (by omega) nW hWi (by omega) nH ((show A_11 193 35 = A 193 35 from by rw [hfA_11 193 (by omega)]).trans hH) (by omega)) (qmem_11 E ad S A_11 b (show qk 188 = 11 from by decide +kernel)) (by decide) rfl gX11_lies_X11_passAll rfl rfl rfl (by decide +kernel) ⟨Nat.le_of_ble_eq_true rfl, Nat.le_of_ble_eq_true rfl⟩ rfl hl.1 rfl (Nat.le_of_ble_eq_true rfl) ⟨Nat.zero_le _, Nat.zero_le _⟩ dX11_lies_32 (fun S_14 A_15 b_16 H locs qr_13 hM => ?_)
          obtain ⟨⟨e1, e3⟩, hrA_15, hfA_15⟩ := qr_13
          subst e1; subst e3
          refine lv_aload_n hx hb dX11_lies_35 rfl (lv_at hl 0 rfl) ?_
          refine q_get (o := 188) (ci := 11) (k := 11) (T := TX11) (v := .ref (ad 193)) C hM (qmem_11 E ad S A_15 b (show qk 188 = 11 from by decide +kernel)) (by decide) rfl hi11 (by decide) hL1 rfl rfl dX11_lies_36 ?_
          refine lv_iload_n hx hb dX11_lies_39 rfl (lv_at hl 1 rfl) ?_
          refine q_iald (v := A_15 193 ka1) C hM (show qk 193 = 12 from by decide +kernel) (by rw [(show ql 193 = 37 from by decide +kernel)]; exact vp_nI (by omega) (by omega)) (by rw [nIc (by omega)]) dX11_lies_40 ?_
          refine lv_istore_n (lv' := [(3, .int (A_15 193 ka1)), (0, .ref (ad 188)), (1, .int (nI ka1)), (2, .int (nI ka2))]) hx hb dX11_lies_41 rfl hl (by decide) rfl (fun ls hl => ?_)
          refine lv_aload_n hx hb dX11_lies_42 rfl (lv_at hl 1 rfl) ?_
          refine q_callVV (n := 0) (o := 188) (As := []) (rest := []) C hM hA (c_X11_putBack E ad l S A_15 b) (qmem_11 E ad S A_15 b (show qk 188 = 11 from by decide +kernel)) (by decide) rfl gX11_lies_X11_putBack rfl rfl rfl (by decide +kernel) ⟨Nat.le_of_ble_eq_true rfl, Nat.le_of_ble_eq_true rfl⟩ rfl hl.1 rfl (Nat.le_of_ble_eq_true rfl) ⟨Nat.zero_le _, Nat.zero_le _⟩ dX11_lies_43 (fun S_18 A_19 b_20 H locs qr_17 hM => ?_)
          obtain ⟨⟨e1, e3⟩, hrA_19, hfA_19⟩ := qr_17
          subst e1; subst e3
          refine lv_iload_n hx hb dX11_lies_46 rfl (lv_at hl 0 rfl) ?_
          exact q_iret C hM dX11_lies_47 (by have hbk : A_19 193 = A 193 := (by rw [hrA_19]; exact qback (by rw [hfA_15 203 (by omega)]; exact hrA_11) (fun a ha => by rw [hrA_15, hfA_11 193 (by omega)]; exact mpass_hi (by omega) (by omega) (by omega) (by omega) _)); rw [qix_in hka1 (by omega)]; dsimp only [Option.elim]; rw [qir_in hloka2 hhika2 (by omega)]; dsimp only [Option.elim]; exact ⟨⟨rfl, rfl⟩, by rw [show A_15 193 = _ from hrA_15, hfA_11 191 (by omega), hfA_11 192 (by omega), hfA_11 193 (by omega)], fun i hi => by by_cases hz : i = 193; (rw [hz]; exact hbk); (rw [hfA_19 i hz, hfA_15 i hz, hfA_11 i hi])⟩)
        · skip
          have c_20 : 1 = 0 := (nI_eq (a := 1) (b := 0) (by omega) (by omega)).mp c_20
          exact absurd c_20 (by decide)
      · skip
        rw [hzr_5] at er_5
        subst er_5
        refine lv_if_ne (tgt := 26) hx hb dX11_lies_20 (by decide) (fun c_20 => ?_) (fun c_20 => ?_)
        · skip
          have c_20 : ¬ (0 = 0) := fun z => c_20 ((nI_eq (a := 0) (b := 0) (by omega) (by omega)).mpr z)
          exact absurd rfl c_20
        · skip
          have c_20 : 0 = 0 := (nI_eq (a := 0) (b := 0) (by omega) (by omega)).mp c_20
          refine lv_ldc (v := (-1000000002)) hx hb C.2.2.2.1 hL2 dX11_lies_23 ?_
          exact q_iret C hM dX11_lies_25 (by rw [qix_in hka1 (by omega)]; dsimp only [Option.elim]; rw [qir_out hir_5]; dsimp only [Option.elim]; exact ⟨⟨rfl, rfl⟩, rfl, fun _ _ => rfl⟩)
    · skip
      have c_5 : 1 = 0 := (nI_eq (a := 1) (b := 0) (by omega) (by omega)).mp c_5
      exact absurd c_5 (by decide)
  · skip
    subst er_1
    refine lv_if_ne (tgt := 11) hx hb dX11_lies_5 (by decide) (fun c_5 => ?_) (fun c_5 => ?_)
    · skip
      have c_5 : ¬ (0 = 0) := fun z => c_5 ((nI_eq (a := 0) (b := 0) (by omega) (by omega)).mpr z)
      exact absurd rfl c_5
    · skip
      have c_5 : 0 = 0 := (nI_eq (a := 0) (b := 0) (by omega) (by omega)).mp c_5
      refine lv_ldc (v := (-1000000001)) hx hb C.2.2.2.1 hL3 dX11_lies_8 ?_
      exact q_iret C hM dX11_lies_10 (by rw [qix_out (by omega) hnoa1]; dsimp only [Option.elim]; exact ⟨⟨rfl, rfl⟩, rfl, fun _ _ => rfl⟩)

set_option maxHeartbeats 4000000 in
set_option maxRecDepth 100000 in
theorem c_X11_open (E : qE) (ad : Nat → Nat) (l : Launch) (S A : qA2) (b : qB) (a1 : Int32) (nC : Nat) (hC : S 188 0 = nI nC) (hCb : nC ≤ 12) (nP : Nat) (hPo : S 188 4 = nI nP) (hPb : nP ≤ 6) (nW : Nat) (hWi : S 188 8 = nI nW) (hWb : nW ≤ 10) (nH : Nat) (hH : A 193 35 = nI nH) (hHb : nH ≤ 80000) : MI E ad l yX11_open wsX11_open { frames := 6, cells := 0, slots := 0, locals := 138 } [.ref (ad 188), .int a1] S A b (fun r S' A' b' => (S = S' ∧ b = b') ∧ r = (qir a1 0 40).elim (-1000000002) (fun n => q01 (qopen (S 188 3) (S 188 2) (mpass nC nP nW (S 188 1) (A 191) (A 192) (A 193) n) nC = S 188 3)) ∧ ∀ i, i ≠ 203 → A' i = A i) := by
  refine MI.of (cc := cX11_open) (maxL := 3) (ret := some .int) RX11 rfl (by decide) rfl ?_
  intro pg e s m below meth cd C hM
  have hx := C.1
  have hb := C.2.1
  have hts := C.2.2.2.2.1
  have hA : ∀ q, s.heap.size ≤ q → qAr ad s.heap.size q := fun _ h => Or.inr h
  have hi11 : ∀ w ∈ u_ws RX11 TX11 45, w ∈ wsX11_open := by decide +kernel
  have hL0 := hts (.constantLong RX11 279 (40)) (by decide +kernel)
  have hL1 := hts (.fieldLink RX11 186 "CrowFencesModel" "road" "I") (by decide +kernel)
  have hL2 := hts (.constant RX11 105 (-1000000002)) (by decide +kernel)
  have hl := lv_entry ([.ref (ad 188), .int a1]) (n := 3) (Nat.le_of_ble_eq_true rfl)
  rw [lg_entry_eq]
  generalize (lg_sl ([.ref (ad 188), .int a1]) ++ List.replicate (3 - (lg_sl ([.ref (ad 188), .int a1])).length) Slot.unset).toArray = ls at hl ⊢
  have hl : lv_has ls 3 [(0, .ref (ad 188)), (1, .int a1)] := hl
  refine lv_iload_n hx hb dX11_open_0 rfl (lv_at hl 1 rfl) ?_
  refine lv_i2l (v := (a1 : Int32).toInt64) hx hb dX11_open_1 rfl ?_
  refine lv_lconst (v := 0) hx hb dX11_open_2 rfl ?_
  refine lv_ldc2 (v := 40) hx hb C.2.2.2.1 hL0 dX11_open_3 ?_
  refine q_callSI (n := 3) (As := [.long ((a1 : Int32).toInt64), .long 0, .long 40]) (rest := []) C hM hA (c_X11_in E ad l S A b ((a1 : Int32).toInt64) 0 40) gX11_open_X11_in rfl rfl rfl (by decide +kernel) ⟨Nat.le_of_ble_eq_true rfl, Nat.le_of_ble_eq_true rfl⟩ rfl hl.1 rfl (Nat.le_of_ble_eq_true rfl) ⟨Nat.zero_le _, Nat.zero_le _⟩ dX11_open_6 (fun r_1 S_2 A_3 b_4 H locs qr_1 hM => ?_)
  obtain ⟨⟨e1, e2, e3⟩, er_1⟩ := qr_1
  subst e1; subst e2; subst e3
  rw [q64 (x := a1) (lo := 0) (hi := 40) (by first | rfl | decide) (by first | rfl | decide)] at er_1
  rcases q01_cases (0 ≤ a1 ∧ a1 ≤ 40) with ⟨hzr_1, hir_1⟩ | ⟨hzr_1, hir_1⟩
  · skip
    rw [hzr_1] at er_1
    subst er_1
    obtain ⟨ka1, hloka1, hhika1, eka1⟩ := qin_of (l := 0) (h := 40) rfl rfl (by omega) (by omega) hir_1
    subst eka1
    refine lv_if_ne (tgt := 15) hx hb dX11_open_9 (by decide) (fun c_9 => ?_) (fun c_9 => ?_)
    · skip
      have c_9 : ¬ (1 = 0) := fun z => c_9 ((nI_eq (a := 1) (b := 0) (by omega) (by omega)).mpr z)
      refine lv_aload_n hx hb dX11_open_15 rfl (lv_at hl 0 rfl) ?_
      refine q_callVV (n := 0) (o := 188) (As := []) (rest := []) C hM hA (c_X11_save E ad l S A b) (qmem_11 E ad S A b (show qk 188 = 11 from by decide +kernel)) (by decide) rfl gX11_open_X11_save rfl rfl rfl (by decide +kernel) ⟨Nat.le_of_ble_eq_true rfl, Nat.le_of_ble_eq_true rfl⟩ rfl hl.1 rfl (Nat.le_of_ble_eq_true rfl) ⟨Nat.zero_le _, Nat.zero_le _⟩ dX11_open_16 (fun S_6 A_7 b_8 H locs qr_5 hM => ?_)
      obtain ⟨⟨e1, e3⟩, hrA_7, hfA_7⟩ := qr_5
      subst e1; subst e3
      refine lv_aload_n hx hb dX11_open_19 rfl (lv_at hl 0 rfl) ?_
      refine lv_iload_n hx hb dX11_open_20 rfl (lv_at hl 1 rfl) ?_
      refine q_callVV (n := 1) (o := 188) (As := [.int (nI ka1)]) (rest := []) C hM hA (c_X11_passAll E ad l S A_7 b ka1 (by omega) nC hC (by omega) nP hPo (by omega) nW hWi (by omega) nH ((show A_7 193 35 = A 193 35 from by rw [hfA_7 193 (by omega)]).trans hH) (by omega)) (qmem_11 E ad S A_7 b (show qk 188 = 11 from by decide +kernel)) (by decide) rfl gX11_open_X11_passAll rfl rfl rfl (by decide +kernel) ⟨Nat.le_of_ble_eq_true rfl, Nat.le_of_ble_eq_true rfl⟩ rfl hl.1 rfl (Nat.le_of_ble_eq_true rfl) ⟨Nat.zero_le _, Nat.zero_le _⟩ dX11_open_21 (fun S_10 A_11 b_12 H locs qr_9 hM => ?_)
      obtain ⟨⟨e1, e3⟩, hrA_11, hfA_11⟩ := qr_9
      subst e1; subst e3
      refine lv_aload_n hx hb dX11_open_24 rfl (lv_at hl 0 rfl) ?_
      refine q_callVI (n := 0) (o := 188) (As := []) (rest := []) C hM hA (c_X11_openCells E ad l S A_11 b nC hC (by omega)) (qmem_11 E ad S A_11 b (show qk 188 = 11 from by decide +kernel)) (by decide) rfl gX11_open_X11_openCells rfl rfl rfl (by decide +kernel) ⟨Nat.le_of_ble_eq_true rfl, Nat.le_of_ble_eq_true rfl⟩ rfl hl.1 rfl (Nat.le_of_ble_eq_true rfl) ⟨Nat.zero_le _, Nat.zero_le _⟩ dX11_open_25 (fun r_13 S_14 A_15 b_16 H locs qr_13 hM => ?_)
      obtain ⟨⟨e1, e2, e3⟩, er_13⟩ := qr_13
      subst e1; subst e2; subst e3
      refine lv_aload_n hx hb dX11_open_28 rfl (lv_at hl 0 rfl) ?_
      refine q_get (o := 188) (ci := 11) (k := 3) (T := TX11) (v := .int (S 188 3)) C hM (qmem_11 E ad S A_11 b (show qk 188 = 11 from by decide +kernel)) (by decide) rfl hi11 (by decide) hL1 rfl rfl dX11_open_29 ?_
      refine lv_icmp_ne (tgt := 39) hx hb dX11_open_32 (by decide) (fun c_32 => ?_) (fun c_32 => ?_)
      · skip
        refine lv_iconst (v := 0) hx hb dX11_open_39 (by decide) ?_
        refine lv_istore_n (lv' := [(2, .int 0), (0, .ref (ad 188)), (1, .int (nI ka1))]) hx hb dX11_open_40 rfl hl (by decide) rfl (fun ls hl => ?_)
        refine lv_aload_n hx hb dX11_open_41 rfl (lv_at hl 1 rfl) ?_
        refine q_callVV (n := 0) (o := 188) (As := []) (rest := []) C hM hA (c_X11_putBack E ad l S A_11 b) (qmem_11 E ad S A_11 b (show qk 188 = 11 from by decide +kernel)) (by decide) rfl gX11_open_X11_putBack rfl rfl rfl (by decide +kernel) ⟨Nat.le_of_ble_eq_true rfl, Nat.le_of_ble_eq_true rfl⟩ rfl hl.1 rfl (Nat.le_of_ble_eq_true rfl) ⟨Nat.zero_le _, Nat.zero_le _⟩ dX11_open_42 (fun S_18 A_19 b_20 H locs qr_17 hM => ?_)
        obtain ⟨⟨e1, e3⟩, hrA_19, hfA_19⟩ := qr_17
        subst e1; subst e3
        refine lv_iload_n hx hb dX11_open_45 rfl (lv_at hl 0 rfl) ?_
        refine lv_if_eq (tgt := 53) hx hb dX11_open_46 (by decide) (fun c_46 => ?_) (fun c_46 => ?_)
        · skip
          have c_46 : 0 = 0 := (nI_eq (a := 0) (b := 0) (by omega) (by omega)).mp c_46
          refine lv_iconst (v := 0) hx hb dX11_open_53 (by decide) ?_
          exact q_iret C hM dX11_open_54 (by have hbk : A_19 193 = A 193 := (by rw [hrA_19]; exact qback (by rw [hfA_11 203 (by omega)]; exact hrA_7) (fun a ha => by rw [hrA_11, hfA_7 193 (by omega)]; exact mpass_hi (by omega) (by omega) (by omega) (by omega) _)); rw [qir_in hloka1 hhika1 (by omega)]; dsimp only [Option.elim]; rw [show A_11 193 = _ from hrA_11, hfA_7 191 (by omega), hfA_7 192 (by omega), hfA_7 193 (by omega)] at er_13; rw [er_13] at c_32; exact ⟨⟨rfl, rfl⟩, by rw [q01, if_neg c_32], fun i hi => by by_cases hz : i = 193; (rw [hz]; exact hbk); (rw [hfA_19 i hz, hfA_11 i hz, hfA_7 i hi])⟩)
        · skip
          have c_46 : ¬ (0 = 0) := fun z => c_46 ((nI_eq (a := 0) (b := 0) (by omega) (by omega)).mpr z)
          exact absurd rfl c_46
      · skip
        refine lv_iconst (v := 1) hx hb dX11_open_35 (by decide) ?_
        refine lv_goto (tgt := 40) hx hb dX11_open_36 (by decide) ?_
        refine lv_istore_n (lv' := [(2, .int 1), (0, .ref (ad 188)), (1, .int (nI ka1))]) hx hb dX11_open_40 rfl hl (by decide) rfl (fun ls hl => ?_)
        refine lv_aload_n hx hb dX11_open_41 rfl (lv_at hl 1 rfl) ?_
        refine q_callVV (n := 0) (o := 188) (As := []) (rest := []) C hM hA (c_X11_putBack E ad l S A_11 b) (qmem_11 E ad S A_11 b (show qk 188 = 11 from by decide +kernel)) (by decide) rfl gX11_open_X11_putBack rfl rfl rfl (by decide +kernel) ⟨Nat.le_of_ble_eq_true rfl, Nat.le_of_ble_eq_true rfl⟩ rfl hl.1 rfl (Nat.le_of_ble_eq_true rfl) ⟨Nat.zero_le _, Nat.zero_le _⟩ dX11_open_42 (fun S_22 A_23 b_24 H locs qr_21 hM => ?_)
        obtain ⟨⟨e1, e3⟩, hrA_23, hfA_23⟩ := qr_21
        subst e1; subst e3
        refine lv_iload_n hx hb dX11_open_45 rfl (lv_at hl 0 rfl) ?_
        refine lv_if_eq (tgt := 53) hx hb dX11_open_46 (by decide) (fun c_46 => ?_) (fun c_46 => ?_)
        · skip
          have c_46 : 1 = 0 := (nI_eq (a := 1) (b := 0) (by omega) (by omega)).mp c_46
          exact absurd c_46 (by decide)
        · skip
          have c_46 : ¬ (1 = 0) := fun z => c_46 ((nI_eq (a := 1) (b := 0) (by omega) (by omega)).mpr z)
          refine lv_iconst (v := 1) hx hb dX11_open_49 (by decide) ?_
          refine lv_goto (tgt := 54) hx hb dX11_open_50 (by decide) ?_
          exact q_iret C hM dX11_open_54 (by have hbk : A_23 193 = A 193 := (by rw [hrA_23]; exact qback (by rw [hfA_11 203 (by omega)]; exact hrA_7) (fun a ha => by rw [hrA_11, hfA_7 193 (by omega)]; exact mpass_hi (by omega) (by omega) (by omega) (by omega) _)); rw [qir_in hloka1 hhika1 (by omega)]; dsimp only [Option.elim]; rw [show A_11 193 = _ from hrA_11, hfA_7 191 (by omega), hfA_7 192 (by omega), hfA_7 193 (by omega)] at er_13; rw [er_13] at c_32; exact ⟨⟨rfl, rfl⟩, by rw [q01, if_pos c_32], fun i hi => by by_cases hz : i = 193; (rw [hz]; exact hbk); (rw [hfA_23 i hz, hfA_11 i hz, hfA_7 i hi])⟩)
    · skip
      have c_9 : 1 = 0 := (nI_eq (a := 1) (b := 0) (by omega) (by omega)).mp c_9
      exact absurd c_9 (by decide)
  · skip
    rw [hzr_1] at er_1
    subst er_1
    refine lv_if_ne (tgt := 15) hx hb dX11_open_9 (by decide) (fun c_9 => ?_) (fun c_9 => ?_)
    · skip
      have c_9 : ¬ (0 = 0) := fun z => c_9 ((nI_eq (a := 0) (b := 0) (by omega) (by omega)).mpr z)
      exact absurd rfl c_9
    · skip
      have c_9 : 0 = 0 := (nI_eq (a := 0) (b := 0) (by omega) (by omega)).mp c_9
      refine lv_ldc (v := (-1000000002)) hx hb C.2.2.2.1 hL2 dX11_open_12 ?_
      exact q_iret C hM dX11_open_14 (by rw [qir_out hir_1]; dsimp only [Option.elim]; exact ⟨⟨rfl, rfl⟩, rfl, fun _ _ => rfl⟩)
